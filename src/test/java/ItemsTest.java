/** Promises 10 and 11: item, forget. */
public final class ItemsTest {
    private static final Check CHECK = new Check("ItemsTest");

    public static void main(String[] args) {
        for (int v = 0; v < 8; v++) {
            itemsOf(v);
        }
        wrongVariables();
        apart();
        CHECK.end();
    }

    private static void itemsOf(int v) {
        HoleTemplates x = new HoleTemplates();
        Bench.addAll(x, "{*" + (char) ('a' + v) + "}[{" + (char) ('a' + v) + "}]{/}");
        x.compile();
        CHECK.same("an empty row as item", 1, x.item(v));
        Bench.typeAll(x, "xy");
        CHECK.same("a second item", 2, x.item(v));
        CHECK.same("the row is empty then", 0, x.wipe());
        Bench.typeAll(x, Bench.times("z", 40));
        CHECK.same("a third item, of 40", 3, x.item(v));
        Bench.typeAll(x, "\n");
        CHECK.same("a fourth item", 4, x.item(v));
        Bench.typeAll(x, "left");
        CHECK.thrown("a fifth item", IllegalStateException.class, () -> x.item(v));
        CHECK.same("the row is left", 4, x.wipe());
        CHECK.same("still compiled", 51, x.write());
        CHECK.same("the items", "[][xy][" + Bench.times("z", 40) + "][\n]", Bench.writing(x));
        CHECK.same("forget", 4, x.forget(v));
        CHECK.same("forget again", 0, x.forget(v));
        CHECK.same("no items: write", 0, x.write());
        Bench.typeAll(x, "n");
        CHECK.same("an item again", 1, x.item(v));
        x.write();
        CHECK.same("the new item alone", "[n]", Bench.writing(x));
    }

    private static void wrongVariables() {
        int[] wrong = {-1, 8, 9, Integer.MIN_VALUE, Integer.MAX_VALUE, 97};
        for (int v : wrong) {
            HoleTemplates x = new HoleTemplates();
            for (int n = 0; n < 4; n++) {
                x.item(0);
                x.item(7);
            }
            Bench.typeAll(x, "abc");
            CHECK.thrown("item " + v, IndexOutOfBoundsException.class, () -> x.item(v));
            CHECK.thrown("forget " + v, IndexOutOfBoundsException.class, () -> x.forget(v));
            CHECK.same("the row is left", 3, x.wipe());
            CHECK.same("the items of a are left", 4, x.forget(0));
            CHECK.same("the items of h are left", 4, x.forget(7));
        }
    }

    private static void apart() {
        HoleTemplates x = Bench.withTemplate("{a}{b}{c}{d}{e}{f}{g}{h}");
        x.compile();
        for (char v = 'a'; v <= 'h'; v++) {
            Bench.give(x, v, v + "1");
            Bench.give(x, v, v + "2");
        }
        x.forget(2);
        x.write();
        CHECK.same("each variable its own", "a1b1d1e1f1g1h1", Bench.writing(x));
    }
}
