/** Runs of calls, made from parts of pages by a fixed row of numbers, on an object and on the model. */
public final class ModelTest {
    private static final Check CHECK = new Check("ModelTest");
    private static final String[] PARTS = {
        "<p>", "</p>", "<a href=\"", "<a href='", "<p x='", "<p x=\"", "\">", "'>", "<p onclick=\"", "<p on='",
        "<p style=\"", "<p style='", "<script>", "</script>", "<style>", "</style>", "<title>", "</title>", "<!--",
        "-->", "<b ", ">", "/>", "x ", "y='1' ", "src = \"", "action\n=\n'", "{a}", "{b}", "{c}", "{h}", "{?a}", "{?b}",
        "{*a}", "{*c}", "{:}", "{/}", "{{", "}", "'", "\"", "//", "/*", "*/", "\n", "&amp;", "&", "%20", "%", "?", "#",
        "\\", "\\'", "<", "/", "`", " ", "-", "*", "=", ";", "text", "<i/>", "{", "a", "Z", "9", ":", "!",
    };
    private static final String[] ITEMS = {
        "", "x", "http://x/?a=b&c#d", "javascript:y", "<b>\"&'", "1.5em", "a\nb", "\\`{}|^~", " ", "#:", "MailTo:q",
        "abcdefghijklmnopqrstuvwxyz0123456789ABCD", "!@$*+,;=", "%-._()[]",
    };
    private static long seed = 20261115;
    private static int accepted;
    private static int written;

    public static void main(String[] args) {
        for (int run = 0; run < 40000; run++) {
            pages();
        }
        for (int run = 0; run < 3000; run++) {
            calls();
        }
        CHECK.same("enough templates were accepted (" + accepted + ")", true, accepted > 3000);
        CHECK.same("enough were written (" + written + ")", true, written > 2000);
        CHECK.end();
    }

    private static int pick(int n) {
        seed = seed * 6364136223846793005L + 1442695040888963407L;
        return (int) ((seed >>> 33) % n);
    }

    /** One template out of parts, which are chosen so that many can go on, and all that it answers. */
    private static void pages() {
        HoleTemplates x = new HoleTemplates();
        Model m = new Model();
        int length = 1 + pick(14);
        for (int n = 0; n < length; n++) {
            extend(m, PARTS[pick(PARTS.length)]);
        }
        closeAll(m);
        Bench.addAll(x, m.template);
        for (int n = pick(6); n > 0; n--) {
            int v = pick(4) == 3 ? 7 : pick(3);
            if (m.items.get(v).size() < 4) {
                String item = ITEMS[pick(ITEMS.length)];
                m.items.get(v).add(item);
                Bench.give(x, (char) ('a' + v), item);
            }
        }
        compareCompiling(x, m);
        compareWriting(x, m);
    }

    /** Adds the part if reading goes on behind it, or, now and then, all the same. */
    private static void extend(Model m, String part) {
        String before = m.template;
        m.template = before + part;
        m.compile();
        boolean goesOn = m.fault < 0 || m.fault == m.template.length();
        if (!goesOn && pick(40) != 0) {
            m.template = before;
        }
    }

    private static void closeAll(Model m) {
        String[] ends = {"{/}", "\">", "'>", ">", "</script>", "</style>", "</title>", "-->", "*/", "\n", "'", "\""};
        for (int n = 0; n < 10 && !m.compile(); n++) {
            extend(m, ends[pick(ends.length)]);
        }
        m.compiled = false;
        m.fault = -1;
    }

    private static void compareCompiling(HoleTemplates x, Model m) {
        boolean due = m.compile();
        accepted += due ? 1 : 0;
        CHECK.same("accepts " + m.template, due, x.accepts());
        CHECK.same("fault of " + m.template, m.fault, x.fault());
        for (int k = -1; k <= m.holeCount(); k++) {
            CHECK.same("hole " + k + " of " + m.template, m.hole(k), x.hole(k));
        }
        Object got = "thrown";
        try {
            got = x.compile();
        } catch (IllegalArgumentException e) {
            got = "refused";
        }
        CHECK.same("compile " + m.template, due ? (Object) m.holeCount() : "refused", got);
    }

    private static void compareWriting(HoleTemplates x, Model m) {
        Object due = "not compiled";
        if (m.compiled) {
            due = m.write() ? (Object) m.writing.length() : "too long";
            written += m.writing.isEmpty() ? 0 : 1;
        }
        Object got;
        try {
            got = x.write();
        } catch (UnsupportedOperationException e) {
            got = "not compiled";
        } catch (IllegalStateException e) {
            got = "too long";
        }
        CHECK.same("write " + m.template + " with " + m.items, due, got);
        CHECK.same("writing of " + m.template + " with " + m.items, m.writing, Bench.writing(x));
    }

    /** Calls of all kinds in any order. */
    private static void calls() {
        HoleTemplates x = new HoleTemplates();
        Model m = new Model();
        for (int n = 0; n < 60; n++) {
            switch (pick(12)) {
                case 0: case 1: case 2: case 3:
                    typing(x, m, pick(2) == 0 ? PARTS[pick(PARTS.length)] : ITEMS[pick(ITEMS.length)]);
                    break;
                case 4: case 5:
                    adding(x, m);
                    break;
                case 6:
                    compareCompiling(x, m);
                    break;
                case 7:
                    compareWriting(x, m);
                    break;
                case 8: case 9:
                    itemOrForget(x, m, pick(11) - 1);
                    break;
                default:
                    others(x, m);
                    break;
            }
        }
    }

    private static void typing(HoleTemplates x, Model m, String s) {
        String wrong = pick(9) == 0 ? "\t" : "";
        for (char c : (s + wrong).toCharArray()) {
            boolean due = (c == 10 || c >= 32 && c < 127) && m.row.length() < 40;
            CHECK.same("type " + (int) c, due, x.type(c));
            m.row += due ? "" + c : "";
        }
    }

    private static void adding(HoleTemplates x, Model m) {
        Object got;
        try {
            got = x.add();
        } catch (IllegalStateException e) {
            got = "too long";
        }
        boolean fits = m.template.length() + m.row.length() <= 240;
        if (fits) {
            m.template += m.row;
            m.row = "";
            m.compiled = false;
        }
        CHECK.same("add", fits ? (Object) m.template.length() : "too long", got);
    }

    private static void itemOrForget(HoleTemplates x, Model m, int v) {
        boolean giving = pick(3) > 0;
        Object got;
        try {
            got = giving ? x.item(v) : x.forget(v);
        } catch (IndexOutOfBoundsException e) {
            got = "no variable";
        } catch (IllegalStateException e) {
            got = "full";
        }
        Object due = "no variable";
        if (v >= 0 && v < 8) {
            int has = m.items.get(v).size();
            due = !giving ? (Object) has : has < 4 ? (Object) (has + 1) : "full";
            if (!giving) {
                m.items.get(v).clear();
            } else if (has < 4) {
                m.items.get(v).add(m.row);
                m.row = "";
            }
        }
        CHECK.same((giving ? "item " : "forget ") + v, due, got);
    }

    private static void others(HoleTemplates x, Model m) {
        switch (pick(7)) {
            case 0:
                CHECK.same("wipe", m.row.length(), x.wipe());
                m.row = "";
                break;
            case 1:
                CHECK.same("clear", m.template.length(), x.clear());
                m.template = "";
                m.compiled = false;
                break;
            case 2:
                CHECK.same("fault", m.fault, x.fault());
                break;
            case 3:
                int k = pick(6) - 1;
                CHECK.same("hole " + k, m.hole(k), x.hole(k));
                break;
            case 4:
                CHECK.same("written", m.writing.length(), x.written());
                break;
            default:
                int i = pick(60) - 1;
                boolean there = i >= 0 && i < m.writing.length();
                CHECK.same("letter " + i, there ? m.writing.charAt(i) : (char) 0, x.letter(i));
                break;
        }
    }
}
