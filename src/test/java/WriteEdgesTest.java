/** The boundary cases of promises 12 to 14, and of "to write" in the terms. */
public final class WriteEdgesTest {
    private static final Check CHECK = new Check("WriteEdgesTest");
    private static final int LIMIT = 1000;
    /** Writes 880 characters where fill() has given the items. */
    private static final String FILLING = "{*a}{b}{b}{b}{b}{b}{/}{b}{b}";
    private static final int FILLED = 880;

    public static void main(String[] args) {
        roomEndsAtCharacters();
        roomEndsAtValues();
        roomEndsAtBranches();
        roomEndsInLoops();
        tooLongThenShort();
        notCompiled();
        emptyWriting();
        choices();
        loops();
        loopsInLoops();
        noItemInEachContext();
        schemes();
        forgottenItems();
        letters();
        CHECK.end();
    }

    private static Run fill(Run run) {
        return run.given(0, "", "", "", "").given(1, "b".repeat(40));
    }

    /**
     * The end is written behind so much that the whole has from 999 characters to so many that already its first one
     * finds no room. Its variable is d.
     */
    private static void roomEndsAt(String end, String due, String... items) {
        for (int before = LIMIT - 1 - due.length(); before <= LIMIT + 1; before++) {
            Run run = fill(new Run()).given(3, items);
            run.compiled(FILLING + "x".repeat(before - FILLED) + end);
            int length = before + due.length();
            String what = before + " characters and " + end;
            if (length <= LIMIT) {
                CHECK.same("write " + what, length, run.write());
                CHECK.same("written " + what, length, run.written());
                CHECK.same("the end of " + what, due, run.text(before, LIMIT));
                CHECK.same("behind " + what, 0, run.letter(length));
            } else {
                CHECK.same("write " + what, Run.STATE, run.write());
                isEmpty(run, what);
            }
        }
    }

    private static void isEmpty(Run run, String what) {
        CHECK.same("written " + what, 0, run.written());
        CHECK.same("letter(0) of " + what, 0, run.letter(0));
        CHECK.same("letter(1) of " + what, 0, run.letter(1));
        CHECK.same("letter(999) of " + what, 0, run.letter(LIMIT - 1));
        CHECK.same("letter(1000) of " + what, 0, run.letter(LIMIT));
    }

    private static void roomEndsAtCharacters() {
        roomEndsAt("", "");
        roomEndsAt("y", "y");
        roomEndsAt("\n", "\n");
        roomEndsAt(" ", " ");
        roomEndsAt("{{", "{");
        roomEndsAt("}", "}");
        roomEndsAt("&amp;", "&amp;");
        roomEndsAt("<p>", "<p>");
        roomEndsAt("<!--c-->", "<!--c-->");
        roomEndsAt("<script></script>", "<script></script>");
    }

    private static void roomEndsAtValues() {
        roomEndsAt("{d}", "");
        roomEndsAt("{d}", "", "");
        roomEndsAt("{d}", "y", "y");
        roomEndsAt("{d}", "\n", "\n");
        roomEndsAt("{d}", "&amp;", "&");
        roomEndsAt("{d}", "&lt;", "<");
        roomEndsAt("{d}", "&gt;", ">");
        roomEndsAt("{d}", "&#34;", "\"");
        roomEndsAt("{d}", "&#39;", "'");
        roomEndsAt("{d}", "y".repeat(40), "y".repeat(40));
        roomEndsAt("<title>{d}</title>", "<title>&amp;</title>", "&");
        roomEndsAt("<p x='{d}'>", "<p x='&#39;'>", "'");
        roomEndsAt("<a href='{d}'>", "<a href='#off'>", "x:y");
        roomEndsAt("<a href='{d}'>", "<a href='%20&amp;/'>", " &/");
        roomEndsAt("<a href='?{d}'>", "<a href='?%26y'>", "&y");
        roomEndsAt("<script>{d}</script>", "<script>\"\"</script>", "");
        roomEndsAt("<script>{d}</script>", "<script>\"y\\x3C\"</script>", "y<");
        roomEndsAt("<script>'{d}'</script>", "<script>'\\x27y'</script>", "'y");
        roomEndsAt("<p on='{d}'>", "<p on='&#34;y&#34;'>", "y");
        roomEndsAt("<style>{d}</style>", "<style>none</style>", "");
        roomEndsAt("<style>{d}</style>", "<style>1.5em</style>", "1.5em");
        roomEndsAt("<style>'{d}'</style>", "<style>'\\3C y'</style>", "<y");
    }

    private static void roomEndsAtBranches() {
        roomEndsAt("{?d}yes{:}no{/}", "yes", "i");
        roomEndsAt("{?d}yes{:}no{/}", "no");
        roomEndsAt("{?d}yes{:}no{/}", "no", "", "i");
        roomEndsAt("{?d}yes{/}", "yes", "i");
        roomEndsAt("{?d}yes{/}", "");
        roomEndsAt("{*d}y{/}", "");
        roomEndsAt("{*d}y{/}", "y", "");
        roomEndsAt("{*d}[{d}]{/}", "[1][][&amp;][4]", "1", "", "&", "4");
        roomEndsAt("{*d}{?d}[{*d}{d}{/}]{:}-{/}{/}z", "[1]-[3]z", "1", "", "3");
    }

    /** The room ends in the first turn of a loop, in a later one, and in one loop within another. */
    private static void roomEndsInLoops() {
        Run exact = new Run().compiled("{*a}{*b}{*c}{a}{b}{c}{/}{/}{/}{a}");
        for (int v = 0; v < 3; v++) {
            exact.given(v, "p".repeat(40), "q".repeat(40));
        }
        CHECK.same("8 times 120 and 40", 1000, exact.write());
        CHECK.same("its last", (int) 'p', exact.letter(999));
        CHECK.same("one empty item more", 3, exact.item(2));
        CHECK.same("12 times 80 and more", Run.STATE, exact.write());
        isEmpty(exact, "12 times 80 and more");
        exact.forget(2);
        CHECK.same("the inner loop writes nothing", 40, exact.write());
        CHECK.same("a has all its items again", (int) 'p', exact.letter(39));
        Run firstTurn = new Run().compiled("{*a}" + "{b}".repeat(26) + "{/}{*a}{a}{/}").given(0, "1", "2");
        firstTurn.given(1, "b".repeat(40));
        CHECK.same("26 times 40 in the first turn", Run.STATE, firstTurn.write());
        isEmpty(firstTurn, "26 times 40");
        firstTurn.forget(1);
        CHECK.same("behind it the loop has all items", 2, firstTurn.write());
        CHECK.same("both of them", "12", firstTurn.text());
    }

    private static void tooLongThenShort() {
        Run run = fill(new Run()).compiled(FILLING + "x".repeat(121));
        for (int n = 0; n < 3; n++) {
            CHECK.same("write 1001", Run.STATE, run.write());
            isEmpty(run, "1001 for the time " + n);
        }
        run.forget(0);
        CHECK.same("still compiled, and with room", 201, run.write());
        CHECK.same("its first", (int) 'b', run.letter(0));
        CHECK.same("its last", (int) 'x', run.letter(200));
        CHECK.same("behind its last", 0, run.letter(201));
        run.given(0, "", "", "", "");
        CHECK.same("write 1001 again", Run.STATE, run.write());
        isEmpty(run, "1001 behind 201");
    }

    private static void notCompiled() {
        Run run = new Run().added("abc");
        CHECK.same("write, not compiled", Run.UNSUPPORTED, run.write());
        CHECK.same("written, nothing yet", 0, run.written());
        run.compile();
        run.write();
        run.add();
        CHECK.same("write behind add of an empty row", Run.UNSUPPORTED, run.write());
        CHECK.same("the earlier writing behind add", "abc", run.text());
        run.added("<");
        CHECK.same("write behind add", Run.UNSUPPORTED, run.write());
        run.accepts();
        CHECK.same("write behind a refusal", Run.UNSUPPORTED, run.write());
        CHECK.same("the earlier writing behind a refusal", "abc", run.text());
        run.clear();
        CHECK.same("write behind clear", Run.UNSUPPORTED, run.write());
        CHECK.same("written behind clear", 3, run.written());
        CHECK.same("the earlier writing behind clear", "abc", run.text());
        run.compile();
        CHECK.same("the earlier writing behind compile", "abc", run.text());
        CHECK.same("write the empty template", 0, run.write());
        CHECK.same("the earlier writing is gone", "", run.text());
    }

    private static void emptyWriting() {
        String[] nothing = {"", "{a}", "{?a}x{/}", "{?a}x{:}{/}", "{?a}{:}{/}", "{*a}x{/}", "{*a}{/}", "{?a}{*b}{/}{/}",
            "{*a}{*b}x{/}{/}"};
        for (String template : nothing) {
            Run run = new Run().compiled("long").given(1, "b");
            run.write();
            run.clear();
            run.compiled(template);
            CHECK.same("write " + template, 0, run.write());
            CHECK.same("written " + template, 0, run.written());
            CHECK.same("letter(0) of " + template, 0, run.letter(0));
            CHECK.same("letter(3) of " + template, 0, run.letter(3));
        }
    }

    private static void writes(String template, String due, String... items) {
        Run run = new Run().compiled(template).given(0, items).given(1, "B", "C");
        CHECK.same("write " + template + " with " + String.join("|", items), due.length(), run.write());
        CHECK.same("the writing of " + template + " with " + String.join("|", items), due, run.text());
    }

    private static void choices() {
        writes("1{?a}y{:}n{/}2", "1n2");
        writes("1{?a}y{:}n{/}2", "1n2", "");
        writes("1{?a}y{:}n{/}2", "1n2", "", "i", "i", "i");
        writes("1{?a}y{:}n{/}2", "1y2", "i");
        writes("1{?a}y{:}n{/}2", "1y2", "i", "");
        writes("1{?a}y{:}n{/}2", "1y2", " ");
        writes("1{?a}y{:}n{/}2", "1y2", "\n");
        writes("1{?a}y{:}n{/}2", "1y2", "0");
        writes("1{?a}y{:}n{/}2", "1y2", "x".repeat(40));
        writes("1{?a}y{/}2", "12");
        writes("1{?a}y{/}2", "12", "");
        writes("1{?a}y{/}2", "1y2", "i");
        writes("1{?a}{:}n{/}2", "12", "i");
        writes("1{?a}{:}n{/}2", "1n2");
        writes("1{?a}{?b}yy{:}yn{/}{:}{?b}ny{:}nn{/}{/}2", "1ny2");
        writes("1{?b}{?a}yy{:}yn{/}{:}{?a}ny{:}nn{/}{/}2", "1yn2");
        writes("{?a}{?a}{?a}{?a}{?a}{?a}6{/}{/}{/}{/}{/}{/}", "6", "i");
        writes("{?a}{:}{?a}{:}{?a}{:}{?a}{:}{?a}{:}{?a}{:}6{/}{/}{/}{/}{/}{/}", "6");
    }

    private static void loops() {
        writes("1{*a}[{a}]{/}2", "12");
        writes("1{*a}[{a}]{/}2", "1[]2", "");
        writes("1{*a}[{a}]{/}2", "1[][i]2", "", "i");
        writes("1{*a}[{a}]{/}2", "1[i][]2", "i", "");
        writes("1{*a}[{a}]{/}2", "1[][][][]2", "", "", "", "");
        writes("1{*a}[{a}]{/}2", "1[p][q][r][s]2", "p", "q", "r", "s");
        writes("{*a}{?a}y{:}n{/}{/}{?a}y{:}n{/}", "nynyn", "", "i", "", "i");
        writes("{*a}{?a}y{:}n{/}{/}{?a}y{:}n{/}", "yny", "i", "");
        writes("{a}{*a}{a}{b}{/}{a}{b}", "1" + "1B" + "2B" + "1B", "1", "2");
        writes("{?a}{*a}{a}{/}{:}none{/}", "none", "", "i");
        writes("{?b}{*a}{a}{/}{/}", "pq", "p", "q");
    }

    private static void loopsInLoops() {
        writes("{*a}({*a}{a}{/}){/}", "");
        writes("{*a}({*a}{a}{/}){/}", "()", "");
        writes("{*a}({*a}{a}{/}){/}", "(1)(2)(3)(4)", "1", "2", "3", "4");
        writes("{*a}{*a}{a}{/}{a}{?a}y{:}n{/}{/}{a}", "11y" + "n" + "33y" + "1", "1", "", "3");
        writes("{*a}{*a}{*a}{*a}{*a}{*a}{a}{/}{/}{/}{/}{/}{/}{a}", "121", "1", "2");
        writes("{*a}{*b}{a}{b}{*a}{a}{/} {/}{/}", "1B1 1C1 2B2 2C2 ", "1", "2");
        writes("{*b}{*a}{b}{/}{/}{*b}{b}{/}", "BC");
        writes("{*b}{*a}{*b}{b}{/}{/}{/}", "BBCC", "1", "2");
    }

    private static void noItemInEachContext() {
        String[] templates = {"[{a}]", "<title>{a}</title>", "<p x='{a}'>", "<a href='{a}'>", "<a href='/{a}'>",
            "<a href='?{a}'>", "<script>{a}</script>", "<script>'{a}'</script>", "<p on='{a}'>", "<p on='\"{a}\"'>",
            "<style>{a}</style>", "<style>\"{a}\"</style>", "<p style='{a}'>", "<p style='\"{a}\"'>"};
        String[] due = {"", "", "", "", "", "", "\"\"", "", "&#34;&#34;", "", "none", "", "none", ""};
        for (int t = 0; t < templates.length; t++) {
            writes(templates[t], templates[t].replace("{a}", due[t]));
            writes(templates[t], templates[t].replace("{a}", due[t]), "");
            writes(templates[t], templates[t].replace("{a}", due[t]), "", "second");
        }
    }

    /** "if a : is in it before any of / ? #", with the : at the first place, at the last and behind each of them. */
    private static void schemes() {
        String[] off = {":", "a:", ":a", "javascript:x", "http :", " http:", "httpp:", "htt:", "https_:", "mailt:", "mailtoo:",
            "x".repeat(39) + ":", "a:/", "a:?", "a:#", "a::", "ftp://x", "ttp:", "s:", "@http:", "[http:", "`http:", "{ttp:"};
        for (String item : off) {
            writes("<a href='{a}'>", "<a href='#off'>", item);
        }
        String[] as = {"/:", "?:", "#:", "a/:", "a?:", "a#:", "http:", "https:", "mailto:", "HTTP:", "HttpS:x", "MAILTO:a@b",
            "http::", "x".repeat(40), "http", "//a:b", "/", "?", "#"};
        for (String item : as) {
            writes("<a href='{a}'>", "<a href='" + item + "'>", item);
        }
        writes("<a href='/{a}'>", "<a href='/a:b'>", "a:b");
        writes("<a href='?{a}'>", "<a href='?a%3Ab'>", "a:b");
        writes("<a href='{h}{a}'>", "<a href='a:b'>", "a:b");
    }

    /** Where an item ends, what an earlier and longer one had there is not seen. */
    private static void forgottenItems() {
        String[] templates = {"<a href='{a}'>", "<style>{a}</style>", "[{a}]", "<script>{a}</script>", "<p style='\"{a}\"'>"};
        String[] due = {"abc", "abc", "abc", "\"abc\"", "abc"};
        for (int t = 0; t < templates.length; t++) {
            Run run = new Run().compiled(templates[t]).given(0, "abc:/?#;x", "abc:");
            run.forget(0);
            run.given(0, "abc", "abc:").write();
            CHECK.same(templates[t] + " behind a longer item", templates[t].replace("{a}", due[t]), run.text());
        }
    }

    private static void letters() {
        int[] none = {-1, -2, 3, 4, 999, 1000, 1001, 65536, Integer.MIN_VALUE, Integer.MIN_VALUE + 1, Integer.MAX_VALUE,
            Integer.MAX_VALUE - 1};
        Run unused = new Run();
        Run run = new Run().compiled("xyz");
        for (int i : none) {
            CHECK.same("letter " + i + ", new", 0, unused.letter(i));
            CHECK.same("letter " + i + ", nothing written", 0, run.letter(i));
        }
        run.write();
        for (int i : none) {
            CHECK.same("letter " + i + " of three", 0, run.letter(i));
        }
        CHECK.same("the first", (int) 'x', run.letter(0));
        CHECK.same("the last", (int) 'z', run.letter(2));
        Run shorter = new Run().compiled("{*a}[{a}]{/}").given(0, "long", "er");
        shorter.write();
        CHECK.same("a longer writing", "[long][er]", shorter.text());
        shorter.forget(0);
        shorter.item(0);
        CHECK.same("a shorter writing", 2, shorter.write());
        CHECK.same("its last", (int) ']', shorter.letter(1));
        for (int i = 2; i <= 10; i++) {
            CHECK.same("letter " + i + " of what was there before", 0, shorter.letter(i));
        }
        Run full = fill(new Run()).compiled(FILLING + "x".repeat(119) + "y");
        CHECK.same("write 1000", LIMIT, full.write());
        CHECK.same("the last of 1000", (int) 'y', full.letter(999));
        CHECK.same("behind the last of 1000", 0, full.letter(1000));
        CHECK.same("before the first of 1000", 0, full.letter(-1));
    }
}
