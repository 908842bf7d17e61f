/** The boundary cases of promises 1 to 5, a check for each sentence that names one. */
public final class RowEdgesTest {
    private static final Check CHECK = new Check("RowEdgesTest");
    private static final String FULL_ROW = "x".repeat(40);
    private static final String FULL_TEMPLATE = "{a}" + "y".repeat(236) + "z";

    public static void main(String[] args) {
        newObjectInEachCall();
        newObjectInSomeCalls();
        newObjectBesideAnother();
        typeOneCharacter();
        typeIntoFullRow();
        typeRefusedBetweenOthers();
        wipe();
        wipeLeavesTheRest();
        addEmptyRow();
        addToTheLimit();
        addBeyondTheLimit();
        clear();
        clearLeavesTheRest();
        notCompiledAnyMore();
        CHECK.end();
    }

    private static void newObjectInEachCall() {
        CHECK.same("new: type", true, new Run().type('a'));
        CHECK.same("new: wipe", 0, new Run().wipe());
        CHECK.same("new: add", 0, new Run().add());
        CHECK.same("new: clear", 0, new Run().clear());
        CHECK.same("new: compile", 0, new Run().compile());
        CHECK.same("new: accepts", true, new Run().accepts());
        CHECK.same("new: fault", Run.NONE, new Run().fault());
        for (int k = -1; k <= 1; k++) {
            CHECK.same("new: hole " + k, Run.NONE, new Run().hole(k));
            CHECK.same("new: letter " + k, 0, new Run().letter(k));
        }
        for (int v = 0; v < 8; v++) {
            CHECK.same("new: item " + v, 1, new Run().item(v));
            CHECK.same("new: forget " + v, 0, new Run().forget(v));
        }
        CHECK.same("new: write", Run.UNSUPPORTED, new Run().write());
        CHECK.same("new: written", 0, new Run().written());
    }

    private static void newObjectInSomeCalls() {
        Run row = new Run();
        for (int n = 1; n <= 41; n++) {
            CHECK.same("new, empty row: character " + n, n <= 40, row.type('a'));
        }
        Run template = new Run().typed("x");
        CHECK.same("new, empty template: add", 1, template.add());
        template.compile();
        template.write();
        CHECK.same("new, empty template: what is added is all", "x", template.text());
        Run empty = new Run();
        empty.compile();
        CHECK.same("new, empty template: hole behind compile", Run.NONE, empty.hole(0));
        CHECK.same("new, empty template: write behind compile", 0, empty.write());
        Run item = new Run();
        item.item(0);
        item.compiled("{*a}[{a}]{/}{?a}y{:}n{/}").write();
        CHECK.same("new, empty row: as an item", "[]n", item.text());
        for (char v = 'a'; v <= 'h'; v++) {
            Run variable = new Run().compiled("{*" + v + "}i{/}{?" + v + "}y{:}n{/}{" + v + "}");
            CHECK.same("new, no items of " + v, 1, variable.write());
            CHECK.same("new, no items of " + v, "n", variable.text());
        }
    }

    private static void newObjectBesideAnother() {
        Run other = new Run().compiled("{a}").given(0, "i");
        other.write();
        other.compiled("<").typed("row");
        CHECK.same("a new object has nothing of another", State.behind(run -> { }), State.behind(run -> {
            Run beside = new Run().compiled("{a}").given(0, "i");
            beside.write();
            beside.compiled("<").typed("row");
        }));
        CHECK.same("the other is as before: fault", 3, other.fault());
        CHECK.same("the other is as before: wipe", 3, other.wipe());
        CHECK.same("the other is as before: clear", 4, other.clear());
        CHECK.same("the other is as before: forget", 1, other.forget(0));
        CHECK.same("the other is as before: its writing", "i", other.text());
    }

    private static void typeOneCharacter() {
        int[] refused = {0, 1, 9, 11, 12, 13, 31, 127, 128, 133, 160, 255, 256, 256 + 10, 256 + 32, 0x2028, 32768 + 10,
            65535 - 126, 65535 - 32, 65535 - 10, 65534, 65535};
        for (int c : refused) {
            typeOne(c, false);
        }
        typeOne(10, true);
        for (int c = 32; c <= 126; c++) {
            typeOne(c, true);
        }
    }

    private static void typeOne(int c, boolean due) {
        Run run = new Run();
        CHECK.same("type " + c, due, run.type(c));
        CHECK.same("wipe behind type " + c, due ? 1 : 0, run.wipe());
        Run item = new Run();
        item.type(c);
        item.item(0);
        item.compiled("{a}{?a}{:}empty{/}").write();
        String markup = c == '&' ? "&amp;" : c == '<' ? "&lt;" : c == '>' ? "&gt;" : c == '"' ? "&#34;" : "&#39;";
        String text = "&<>\"'".indexOf(c) >= 0 ? markup : "" + (char) c;
        CHECK.same("the row behind type " + c, due ? text : "empty", item.text());
    }

    private static void typeIntoFullRow() {
        int[] all = {'a', 'x', 10, 32, 126, 9, 127, 0, 65535};
        for (int c : all) {
            Run run = new Run().typed("x".repeat(39));
            CHECK.same("type the 40th", true, run.type('y'));
            CHECK.same("type a 41st: " + c, false, run.type(c));
            CHECK.same("type a 42nd: " + c, false, run.type(c));
            CHECK.same("add behind a 41st: " + c, 40, run.add());
            CHECK.same("type behind add", true, run.type('z'));
            CHECK.same("wipe behind it", 1, run.wipe());
            run.compile();
            run.write();
            CHECK.same("the row behind a 41st: " + c, "x".repeat(39) + "y", run.text());
        }
        Run wiped = new Run().typed(FULL_ROW);
        wiped.type('y');
        CHECK.same("wipe behind a 41st", 40, wiped.wipe());
        CHECK.same("type behind wipe", true, wiped.type('y'));
        CHECK.same("the row behind wipe", 1, wiped.add());
        Run item = new Run().typed(FULL_ROW);
        item.item(0);
        CHECK.same("type behind item", true, item.type('y'));
    }

    private static void typeRefusedBetweenOthers() {
        Run run = new Run().typed("ab");
        run.type(31);
        run.type(127);
        run.type(65535);
        run.typed("c").added("d").compile();
        run.write();
        CHECK.same("what is refused leaves no gap", "abcd", run.text());
    }

    private static void wipe() {
        Run run = new Run();
        CHECK.same("wipe an empty row", 0, run.wipe());
        CHECK.same("wipe one", 1, run.typed("a").wipe());
        CHECK.same("wipe again", 0, run.wipe());
        CHECK.same("wipe 39", 39, run.typed("b".repeat(39)).wipe());
        CHECK.same("wipe 40", 40, run.typed(FULL_ROW).wipe());
        CHECK.same("the row is empty behind it: add", 0, run.add());
        CHECK.same("wipe behind add", 0, run.typed("ab").added("c").wipe());
        run.typed("abc").wipe();
        run.typed("d").added("e").compile();
        run.write();
        CHECK.same("nothing of what was wiped is left", "abcde", run.text());
    }

    private static void wipeLeavesTheRest() {
        CHECK.same("wipe an empty row changes nothing", State.behind(RowEdgesTest::busy), State.behind(run -> {
            busy(run);
            run.wipe();
        }));
        CHECK.same("wipe changes the row alone", State.behind(RowEdgesTest::busy), State.behind(run -> {
            busy(run);
            run.typed("row").wipe();
        }));
    }

    /** A fault, a compiled template, items and a writing, all at a time; the row is empty. */
    private static void busy(Run run) {
        run.compiled("ab<");
        run.clear();
        run.compiled("p{a}<b x='{h}'>").given(0, "i", "j").given(7, "", "k", "l", "m").write();
    }

    private static void addEmptyRow() {
        Run run = new Run();
        CHECK.same("an empty row to an empty template", 0, run.add());
        CHECK.same("once more", 0, run.add());
        run.added("abc");
        CHECK.same("an empty row to a template", 3, run.add());
        CHECK.same("the template is as before", 3, run.clear());
        CHECK.same("an empty row behind clear", 0, run.add());
    }

    private static void addToTheLimit() {
        Run run = new Run();
        for (int n = 1; n <= 6; n++) {
            CHECK.same("add 40 for the time " + n, 40 * n, run.typed(FULL_ROW).add());
        }
        CHECK.same("an empty row to 240", 240, run.add());
        CHECK.same("compile 240", 0, run.compile());
        CHECK.same("write 240", 240, run.write());
        CHECK.same("the last of 240", (int) 'x', run.letter(239));
        CHECK.same("behind the last of 240", 0, run.letter(240));
        Run byOne = new Run().added("x".repeat(239));
        CHECK.same("one to 239", 240, byOne.typed("y").add());
        byOne.compile();
        byOne.write();
        CHECK.same("its last", (int) 'y', byOne.letter(239));
        Run byForty = new Run().added("x".repeat(200));
        CHECK.same("40 to 200", 240, byForty.typed(FULL_ROW).add());
    }

    private static void addBeyondTheLimit() {
        int[] lengths = {201, 202, 238, 239, 240};
        for (int length : lengths) {
            int room = 240 - length;
            Run run = new Run().added("x".repeat(length)).typed("y".repeat(room + 1));
            CHECK.same("one too many to " + length, Run.STATE, run.add());
            CHECK.same("and again", Run.STATE, run.add());
            CHECK.same("the row is left", room + 1, run.wipe());
            CHECK.same("as many as there is room for", 240, run.typed("y".repeat(room)).add());
            CHECK.same("the length", 240, run.clear());
        }
        Run full = new Run().added("x".repeat(240)).typed(FULL_ROW);
        CHECK.same("40 to 240", Run.STATE, full.add());
        CHECK.same("the template is left", 240, full.clear());
        CHECK.same("the row is left, and finds room behind clear", 40, full.add());
        Run compiled = new Run().compiled(FULL_TEMPLATE).typed("r");
        compiled.add();
        CHECK.same("it is still compiled: hole", 0, compiled.hole(0));
        CHECK.same("it is still compiled: write", 237, compiled.write());
        CHECK.same("the last", (int) 'z', compiled.letter(236));
    }

    private static void clear() {
        Run run = new Run();
        CHECK.same("clear an empty template", 0, run.clear());
        CHECK.same("clear one", 1, run.added("a").clear());
        CHECK.same("clear again", 0, run.clear());
        CHECK.same("clear 240", 240, run.added(FULL_TEMPLATE).clear());
        CHECK.same("add behind clear", 2, run.typed("bc").add());
        run.compile();
        run.write();
        CHECK.same("nothing of what was cleared is left", "bc", run.text());
    }

    private static void clearLeavesTheRest() {
        Run run = new Run();
        busy(run);
        run.typed("row").clear();
        CHECK.same("clear: the writing is left", "pi<b x=''>", run.text());
        CHECK.same("clear: the row is left", 3, run.wipe());
        CHECK.same("clear: the items of a are left", 2, run.forget(0));
        CHECK.same("clear: the items of h are left", 4, run.forget(7));
        Run refused = new Run().compiled("ab<");
        refused.clear();
        CHECK.same("clear: the fault is left", 2, refused.fault());
    }

    private static void notCompiledAnyMore() {
        Run emptyRow = new Run().compiled("{a}");
        CHECK.same("compiled: hole", 0, emptyRow.hole(0));
        emptyRow.add();
        notCompiled("an empty row was added", emptyRow);
        Run row = new Run().compiled("{a}").typed("x");
        row.add();
        notCompiled("a row was added", row);
        Run cleared = new Run().compiled("{a}");
        cleared.clear();
        notCompiled("it was cleared", cleared);
        Run empty = new Run();
        empty.compile();
        empty.add();
        notCompiled("an empty row was added to an empty template", empty);
        empty.compile();
        empty.clear();
        notCompiled("an empty template was cleared", empty);
        Run again = new Run().compiled("{a}");
        again.add();
        CHECK.same("compile again", 1, again.compile());
        CHECK.same("compiled again: hole", 0, again.hole(0));
        CHECK.same("compiled again: write", 0, again.write());
        Run still = new Run().compiled("{a}").typed("x");
        still.type(9);
        still.wipe();
        still.item(0);
        still.forget(0);
        CHECK.same("no other call takes it back: hole", 0, still.hole(0));
        CHECK.same("no other call takes it back: write", 0, still.write());
    }

    private static void notCompiled(String when, Run run) {
        CHECK.same("hole, " + when, Run.NONE, run.hole(0));
        CHECK.same("write, " + when, Run.UNSUPPORTED, run.write());
    }
}
