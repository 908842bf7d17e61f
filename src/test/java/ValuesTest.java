/** How a hole writes its item in each context: every character that can be typed, and the items that are told apart. */
public final class ValuesTest {
    private static final Check CHECK = new Check("ValuesTest");
    private static final String WORD = "abcdefghijklmnopqrstuvwxyzABCDEFGHIJKLMNOPQRSTUVWXYZ0123456789";

    public static void main(String[] args) {
        everyCharacter();
        markup();
        urls();
        schemes();
        scripts();
        styles();
        CHECK.end();
    }

    private static String hex(char c) {
        return String.format("%02X", (int) c);
    }

    private static void everyCharacter() {
        for (char c = 10; c <= 126; c = c == 10 ? 32 : (char) (c + 1)) {
            String markup = markupOf(c);
            one("{a}", c, markup);
            one("<title>{a}</title>", c, markup);
            one("<p x='{a}'>", c, markup);
            String early = earlyUrlOf(c);
            one("<a href='/{a}'>", c, early);
            one("<a src=\"{a}\">", c, c == ':' ? "#off" : early);
            one("<a action=\"?{a}\">", c, (WORD + "-._~").indexOf(c) >= 0 ? "" + c : "%" + hex(c));
            boolean stays = (WORD + " .,-_").indexOf(c) >= 0;
            String script = stays ? "" + c : "\\x" + hex(c);
            one("<script>{a}</script>", c, '"' + script + '"');
            one("<script>'{a}'</script>", c, script);
            one("<script>\"{a}\"</script>", c, script);
            one("<p on='{a}'>", c, "&#34;" + script + "&#34;");
            one("<p on='\"{a}\"'>", c, script);
            String style = stays ? "" + c : "\\" + hex(c) + " ";
            one("<style>'{a}'</style>", c, style);
            one("<style>\"{a}\"</style>", c, style);
            one("<p style=\"'{a}'\">", c, style);
            String bare = (WORD + "-.%#").indexOf(c) >= 0 ? "" + c : "none";
            one("<style>{a}</style>", c, bare);
            one("<p style='{a}'>", c, bare);
        }
    }

    private static String markupOf(char c) {
        switch (c) {
            case '&': return "&amp;";
            case '<': return "&lt;";
            case '>': return "&gt;";
            case '"': return "&#34;";
            case '\'': return "&#39;";
            default: return "" + c;
        }
    }

    private static String earlyUrlOf(char c) {
        if ((WORD + "-._~/:@!$*+,;=?#").indexOf(c) >= 0) {
            return "" + c;
        }
        return c == '&' ? "&amp;" : "%" + hex(c);
    }

    private static void one(String template, char c, String due) {
        item(template, "" + c, due);
    }

    private static void item(String template, String item, String due) {
        CHECK.same(template + " with " + item, template.replace("{a}", due), Bench.write(template, item));
    }

    private static void markup() {
        item("<b>{a}</b>", "", "");
        item("<b>{a}</b>", "&amp;\n'", "&amp;amp;\n&#39;");
        CHECK.same("no item", "<b></b>", Bench.write("<b>{a}</b>"));
    }

    private static void urls() {
        CHECK.same("three parts", "<a href='/a&amp;b%20?%2F%26%3F'>", Bench.write("<a href='{a}{b}?{c}'>", "/a&b", " ", "/&?"));
        CHECK.same("no item", "<a href=''>", Bench.write("<a href='{a}'>"));
        CHECK.same("a scheme in part 1", "<a href='x:y'>", Bench.write("<a href='{b}{a}'>", "x:y", ""));
        CHECK.same("a scheme in part 2", "<a href='#x%3Ay'>", Bench.write("<a href='#{a}'>", "x:y"));
        CHECK.same("part 0 in both branches", "<a href='#off'>", Bench.write("<a href='{?b}{a}{:}{a}{/}'>", "x:y"));
    }

    private static void schemes() {
        item("<a href='{a}'>", "http://x/?a=1&b#c", "http://x/?a=1&amp;b#c");
        item("<a href='{a}'>", "HtTpS:x", "HtTpS:x");
        item("<a href='{a}'>", "MAILTO:a@b", "MAILTO:a@b");
        item("<a href='{a}'>", "http:", "http:");
        item("<a href='{a}'>", "javascript:x", "#off");
        item("<a href='{a}'>", "httpx:y", "#off");
        item("<a href='{a}'>", "htt:y", "#off");
        item("<a href='{a}'>", "xttp:y", "#off");
        item("<a href='{a}'>", "xttps:y", "#off");
        item("<a href='{a}'>", "Pailto:y", "#off");
        item("<a href='{a}'>", "mailtp:y", "#off");
        item("<a href='{a}'>", "httpss:y", "#off");
        item("<a href='{a}'>", " http:y", "#off");
        item("<a href='{a}'>", "http :y", "#off");
        item("<a href='{a}'>", "h\nttp:", "#off");
        item("<a href='{a}'>", ":", "#off");
        item("<a href='{a}'>", ":http:", "#off");
        item("<a href='{a}'>", "x&y:", "#off");
        item("<a href='{a}'>", "x/y:z", "x/y:z");
        item("<a href='{a}'>", "x?y:z", "x?y:z");
        item("<a href='{a}'>", "#x:z", "#x:z");
        item("<a href='{a}'>", "/:", "/:");
        item("<a href='{a}'>", "http", "http");
        item("<a href='{a}'>", Bench.times("x", 39) + ":", "#off");
        item("<a href='{a}'>", "", "");
    }

    private static void scripts() {
        item("<script>{a}</script>", "", "\"\"");
        item("<p onx='{a}'>", "", "&#34;&#34;");
        item("<script>'{a}'</script>", "", "");
        item("<script>{a}</script>", "a\n</script>", "\"a\\x0A\\x3C\\x2Fscript\\x3E\"");
        item("<p onx=\"{a}\">", "'it'", "&#34;\\x27it\\x27&#34;");
        CHECK.same("no item", "<script>\"\"</script>", Bench.write("<script>{a}</script>"));
    }

    private static void styles() {
        item("<style>{a}</style>", "", "none");
        item("<style>{a}</style>", "1.5em", "1.5em");
        item("<style>{a}</style>", "#fFf", "#fFf");
        item("<style>{a}</style>", "-50%", "-50%");
        item("<style>{a}</style>", "red;", "none");
        item("<style>{a}</style>", "a b", "none");
        item("<style>{a}</style>", "_", "none");
        item("<p style='{a}'>", "", "none");
        item("<style>'{a}'</style>", "", "");
        item("<style>'{a}'</style>", "a\"b\n", "a\\22 b\\0A ");
        CHECK.same("no item", "<style>none</style>", Bench.write("<style>{a}</style>"));
    }
}
