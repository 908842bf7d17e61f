/** Promises 1 to 5: a new object, type, wipe, add, clear. */
public final class RowTest {
    private static final Check CHECK = new Check("RowTest");

    public static void main(String[] args) {
        newObject();
        typing();
        wiping();
        adding();
        addingTooMuch();
        clearing();
        CHECK.end();
    }

    private static void newObject() {
        HoleTemplates x = new HoleTemplates();
        CHECK.same("new: written", 0, x.written());
        CHECK.same("new: letter(0)", (char) 0, x.letter(0));
        CHECK.same("new: fault", HoleTemplates.NONE, x.fault());
        CHECK.same("new: hole(0)", HoleTemplates.NONE, x.hole(0));
        CHECK.thrown("new: write", UnsupportedOperationException.class, x::write);
        CHECK.same("new: wipe", 0, x.wipe());
        CHECK.same("new: clear", 0, x.clear());
        for (int v = 0; v < 8; v++) {
            CHECK.same("new: forget", 0, x.forget(v));
        }
        CHECK.same("new: compile", 0, x.compile());
        CHECK.same("new: write after compile", 0, x.write());
        CHECK.same("two objects have nothing in common", 0, twoObjects());
    }

    private static int twoObjects() {
        HoleTemplates x = Bench.withTemplate("<");
        Bench.give(x, 'a', "i");
        Bench.typeAll(x, "row");
        x.accepts();
        HoleTemplates y = new HoleTemplates();
        return y.wipe() + y.clear() + y.forget(0) + (y.fault() + 1);
    }

    private static void typing() {
        for (int c = 0; c <= 65535; c++) {
            HoleTemplates x = new HoleTemplates();
            boolean due = c == 10 || c >= 32 && c <= 126;
            if (c < 300 || c > 65500 || c % 256 == 10 || c % 256 == 97) {
                CHECK.same("type " + c, due, x.type((char) c));
                CHECK.same("wipe behind type " + c, due ? 1 : 0, x.wipe());
            }
        }
        HoleTemplates x = new HoleTemplates();
        for (int i = 0; i < 40; i++) {
            CHECK.same("type, the row having " + i, true, x.type('a'));
        }
        CHECK.same("type, the row having 40", false, x.type('b'));
        CHECK.same("type a wrong one, the row having 40", false, x.type((char) 9));
        CHECK.same("the row still has 40", 40, x.add());
        x.compile();
        x.write();
        CHECK.same("what was refused is not there", Bench.times("a", 40), Bench.writing(x));
    }

    private static void wiping() {
        HoleTemplates x = new HoleTemplates();
        Bench.typeAll(x, "abc");
        CHECK.same("wipe", 3, x.wipe());
        CHECK.same("wipe again", 0, x.wipe());
        CHECK.same("add behind wipe", 0, x.add());
        Bench.typeAll(x, Bench.times("x", 40));
        CHECK.same("wipe 40", 40, x.wipe());
        CHECK.same("type behind wipe", true, x.type('y'));
        CHECK.same("add behind wipe and type", 1, x.add());
    }

    private static void adding() {
        HoleTemplates x = new HoleTemplates();
        CHECK.same("add an empty row", 0, x.add());
        Bench.typeAll(x, "{a");
        CHECK.same("add", 2, x.add());
        CHECK.same("the row is empty then", 0, x.wipe());
        Bench.typeAll(x, "}b");
        CHECK.same("add more", 4, x.add());
        CHECK.same("compile, a hole over two rows", 1, x.compile());
        CHECK.same("add an empty row to it", 4, x.add());
        CHECK.same("it is not compiled any more: hole", HoleTemplates.NONE, x.hole(0));
        CHECK.thrown("it is not compiled any more: write", UnsupportedOperationException.class, x::write);
        CHECK.same("compile again", 1, x.compile());
        CHECK.same("hole", 0, x.hole(0));
    }

    private static void addingTooMuch() {
        HoleTemplates x = Bench.withTemplate(Bench.times("a", 239));
        x.compile();
        Bench.typeAll(x, "bc");
        CHECK.thrown("add to 241", IllegalStateException.class, x::add);
        CHECK.same("still compiled", 239, x.write());
        CHECK.same("the row is left", 2, x.wipe());
        Bench.typeAll(x, "b");
        CHECK.same("add to 240", 240, x.add());
        CHECK.same("add nothing to 240", 240, x.add());
        x.compile();
        CHECK.same("write 240", 240, x.write());
        CHECK.same("the last", 'b', x.letter(239));
        Bench.typeAll(x, "c");
        CHECK.thrown("add to 240 one more", IllegalStateException.class, x::add);
        CHECK.same("clear", 240, x.clear());
        CHECK.same("add the row that was left", 1, x.add());
    }

    private static void clearing() {
        HoleTemplates x = Bench.withTemplate("p{a}q");
        Bench.give(x, 'a', "i");
        x.compile();
        x.write();
        Bench.typeAll(x, "row");
        CHECK.same("clear", 5, x.clear());
        CHECK.same("clear again", 0, x.clear());
        CHECK.same("not compiled: hole", HoleTemplates.NONE, x.hole(0));
        CHECK.thrown("not compiled: write", UnsupportedOperationException.class, x::write);
        CHECK.same("the writing is left", "piq", Bench.writing(x));
        CHECK.same("the row is left", 3, x.wipe());
        CHECK.same("the items are left", 1, x.forget(0));
    }
}
