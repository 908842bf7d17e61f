/** The boundary cases of promises 10 and 11. */
public final class ItemEdgesTest {
    private static final Check CHECK = new Check("ItemEdgesTest");
    private static final int[] NO_VARIABLES = {-1, 8, 9, -8, -4, 32, 65536, 'a', 'h', -2147483647, 2147483646,
        Integer.MIN_VALUE, Integer.MAX_VALUE};

    public static void main(String[] args) {
        for (int v = 0; v < 8; v++) {
            firstToFifth(v);
            emptyAndFull(v);
            forgetting(v);
            oneAlone(v);
            fullInTheFourth(v);
        }
        noVariable();
        wrongBeforeFull();
        CHECK.end();
    }

    private static String list(int v) {
        char name = (char) ('a' + v);
        return "{*" + name + "}[{" + name + "}]{/}{" + name + "}";
    }

    private static void firstToFifth(int v) {
        Run run = new Run().compiled(list(v));
        for (int n = 1; n <= 4; n++) {
            CHECK.same("item " + n + " of " + v, n, run.typed("i" + n).item(v));
            CHECK.same("the row behind it", 0, run.wipe());
        }
        for (int n = 5; n <= 6; n++) {
            run.typed("more");
            CHECK.same("item " + n + " of " + v, Run.STATE, run.item(v));
            CHECK.same("the row behind it is left", 4, run.wipe());
        }
        CHECK.same("an empty row as a fifth of " + v, Run.STATE, run.item(v));
        CHECK.same("still compiled", 18, run.write());
        CHECK.same("the four are as before", "[i1][i2][i3][i4]i1", run.text());
        CHECK.same("the row that found no room finds another variable", 1, run.typed("row").item((v + 1) % 8));
    }

    private static void emptyAndFull(int v) {
        Run run = new Run().compiled(list(v));
        CHECK.same("an empty item of " + v, 1, run.item(v));
        CHECK.same("write", 2, run.write());
        CHECK.same("the empty item", "[]", run.text());
        CHECK.same("an item of 40 of " + v, 2, run.typed("x".repeat(39) + "y").item(v));
        run.write();
        CHECK.same("the item of 40", "[][" + "x".repeat(39) + "y]", run.text());
        CHECK.same("an item of one of " + v, 3, run.typed("z").item(v));
        CHECK.same("an empty item once more of " + v, 4, run.item(v));
        run.write();
        CHECK.same("all of them", "[][" + "x".repeat(39) + "y][z][]", run.text());
    }

    private static void forgetting(int v) {
        Run run = new Run().compiled(list(v));
        CHECK.same("forget none of " + v, 0, run.forget(v));
        for (int n = 1; n <= 4; n++) {
            for (int i = 0; i < n; i++) {
                run.typed("abcd").item(v);
            }
            run.typed("row");
            CHECK.same("forget " + n + " of " + v, n, run.forget(v));
            CHECK.same("forget again", 0, run.forget(v));
            CHECK.same("the row is left", 3, run.wipe());
            CHECK.same("still compiled", 0, run.write());
        }
        CHECK.same("an item behind forget", 1, run.typed("n").item(v));
        run.write();
        CHECK.same("nothing of what was forgotten is left", "[n]n", run.text());
    }

    /** What a call does to one variable, it does to no other. */
    private static void oneAlone(int v) {
        Run run = new Run();
        for (int other = 0; other < 8; other++) {
            run.given(other, "p", "q");
        }
        run.given(v, "r");
        for (int other = 0; other < 8; other++) {
            CHECK.same("items of " + other + " behind item " + v, other == v ? 3 : 2, run.forget(other));
            run.given(other, "p", "q");
        }
        run.forget(v);
        for (int other = 0; other < 8; other++) {
            CHECK.same("items of " + other + " behind forget " + v, other == v ? 0 : 2, run.forget(other));
        }
    }

    /** The longest items as the last ones of a variable take nothing from what the others had before. */
    private static void fullInTheFourth(int v) {
        String all = "{a}{b}{c}{d}{e}{f}{g}{h}";
        Run run = new Run().compiled("{*" + (char) ('a' + v) + "}-{/}" + all);
        for (int other = 0; other < 8; other++) {
            run.given(other, "" + other);
        }
        for (int n = 2; n <= 4; n++) {
            CHECK.same("item " + n + " of " + v + ", of 40", n, run.typed("x".repeat(40)).item(v));
        }
        CHECK.same("write", 12, run.write());
        CHECK.same("the first items behind it", "----01234567", run.text());
        run.clear();
        run.compiled(list(v)).write();
        CHECK.same("the items of " + v, "[" + v + "]" + ("[" + "x".repeat(40) + "]").repeat(3) + v, run.text());
    }

    private static void noVariable() {
        for (int v : NO_VARIABLES) {
            CHECK.same("item " + v + " with an empty row", Run.INDEX, new Run().item(v));
            CHECK.same("item " + v, Run.INDEX, new Run().typed("x").item(v));
            CHECK.same("forget " + v, Run.INDEX, new Run().forget(v));
            CHECK.same("item " + v + " changes nothing", State.behind(ItemEdgesTest::busy), State.behind(run -> {
                busy(run);
                run.item(v);
            }));
            CHECK.same("forget " + v + " changes nothing", State.behind(ItemEdgesTest::busy), State.behind(run -> {
                busy(run);
                run.forget(v);
            }));
        }
    }

    private static void busy(Run run) {
        run.compiled("p{a}{h}").given(0, "i", "j").given(7, "k").write();
        run.typed("row");
    }

    /** A wrong v is never taken for a variable that has 4, nor for one that has room. */
    private static void wrongBeforeFull() {
        Run run = new Run();
        for (int v = 0; v < 8; v++) {
            run.given(v, "", "", "", "");
        }
        for (int v : NO_VARIABLES) {
            CHECK.same("item " + v + ", all being full", Run.INDEX, run.item(v));
            CHECK.same("forget " + v + ", all being full", Run.INDEX, run.forget(v));
        }
        for (int v = 0; v < 8; v++) {
            CHECK.same("item " + v + ", all being full", Run.STATE, run.item(v));
        }
    }
}
