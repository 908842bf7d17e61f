/** Calls that most tests need: texts instead of single characters. */
final class Bench {
    private Bench() {
    }

    static void typeAll(HoleTemplates x, String s) {
        for (int i = 0; i < s.length(); i++) {
            if (!x.type(s.charAt(i))) {
                throw new AssertionError("could not type " + s);
            }
        }
    }

    /** Adds a text of any length up to the template's limit, in rows of 40. */
    static void addAll(HoleTemplates x, String s) {
        for (int i = 0; i < s.length(); i += 40) {
            typeAll(x, s.substring(i, Math.min(i + 40, s.length())));
            x.add();
        }
    }

    static HoleTemplates withTemplate(String s) {
        HoleTemplates x = new HoleTemplates();
        addAll(x, s);
        return x;
    }

    /** Gives variable v (a .. h) one item more. */
    static void give(HoleTemplates x, char v, String s) {
        typeAll(x, s);
        x.item(v - 'a');
    }

    static String writing(HoleTemplates x) {
        StringBuilder b = new StringBuilder();
        for (int i = 0; i < x.written(); i++) {
            b.append(x.letter(i));
        }
        return b.toString();
    }

    /** The writing of a template in which the items go to a, b, c .. in turn, one each. */
    static String write(String template, String... items) {
        HoleTemplates x = withTemplate(template);
        x.compile();
        for (int v = 0; v < items.length; v++) {
            give(x, (char) ('a' + v), items[v]);
        }
        x.write();
        return writing(x);
    }

    static String holes(HoleTemplates x) {
        StringBuilder b = new StringBuilder();
        for (int k = 0; x.hole(k) != HoleTemplates.NONE; k++) {
            b.append(k == 0 ? "" : " ").append(x.hole(k));
        }
        return b.toString();
    }

    static String times(String s, int n) {
        return s.repeat(n);
    }
}
