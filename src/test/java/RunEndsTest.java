/**
 * "A piece lies in one run, and so does what is said to follow it": for each piece that wants something to follow it,
 * the run's end right behind it, in each way in which a run ends.
 */
public final class RunEndsTest {
    private static final Check CHECK = new Check("RunEndsTest");
    /** What ends a run where nothing is open; the last two can't be read themselves. */
    private static final String[] ENDS = {"", "{a}", "{?a}", "{*a}", "{", "{x}"};

    public static void main(String[] args) {
        text();
        tag();
        attributes();
        plainAndUrl();
        script();
        scriptValue();
        style();
        styleValue();
        titleAndComment();
        CHECK.end();
    }

    /** The end of the run behind this text is a fault at that place; with each of these behind it, it is read. */
    private static void wants(String start, int fault, String... good) {
        for (String end : ENDS) {
            refused(start + end, fault);
        }
        refused("{?b}" + start + "{:}" + start + "{/}", fault + 4);
        refused("{?b}" + start + "{/}", fault + 4);
        refused("{?b}{:}" + start + "{/}", fault + 7);
        refused("{*b}" + start + "{/}", fault + 4);
        for (String rest : good) {
            read(start + rest);
        }
    }

    /** The run may end right behind this text, which this one then leads back to TEXT. */
    private static void wantsNothing(String start, String rest) {
        read(start + "{?a}{/}" + rest);
        read(start + "{?a}{:}{/}" + rest);
        read(start + "{*a}{/}" + rest);
        read("{?a}" + start + "{:}" + start + "{/}" + rest);
        read("{?a}" + start + rest + "{/}" + start + rest);
    }

    /** Each beginning of a piece that is always the same wants the rest of it. */
    private static void wantsWhole(String before, String piece, int from, String behind) {
        for (int n = from; n < piece.length(); n++) {
            wants(before + piece.substring(0, n), before.length(), piece.substring(n) + behind);
        }
    }

    private static void refused(String template, int fault) {
        Run run = new Run().added(template);
        CHECK.same("accepts " + template, false, run.accepts());
        CHECK.same("fault of " + template, fault, run.fault());
    }

    private static void read(String template) {
        Run run = new Run().added(template);
        CHECK.same("accepts " + template, true, run.accepts());
        CHECK.same("fault of " + template, Run.NONE, run.fault());
    }

    private static void text() {
        wantsWhole("", "<!--", 1, "-->");
        wantsWhole("xyz", "<!--", 1, "-->");
        wants("<", 0, "p>", "/p>");
        wants("</", 0, "p>");
        wants("</p", 0, ">", "q>");
        wants("<p", 0, ">", "/>", " >", "\n>", "q>");
        wants("<script", 0, "></script>", " ></script>", "x/>");
        wants("&", 0, " ", "{{", ";", "&;", "<p>", "a-", "\n");
        wants("&a", 0, ";", "}");
        wants("&z9A#Z0", 0, ";", "<p>", "{{", "&;", "@", "[", "`", "/", ":", "\"", "$");
        wants("x&#", 1, ";");
        wantsNothing("<p>", "");
        wantsNothing("</p>", "");
        wantsNothing("x", "");
        wantsNothing("&amp;", "");
        wantsNothing("&a b", "");
        wantsNothing("<!--", "-->");
        wantsNothing("{{", "");
    }

    private static void tag() {
        wants("<p/", 2, ">");
        wants("<p /", 3, ">");
        wants("<p x='1'/", 8, ">");
        wants("<p a/", 4, ">");
        wants("<p a /", 5, ">");
        wantsNothing("<p ", ">");
        wantsNothing("<p\n", "/>");
        wantsNothing("<script ", "></script>");
        wantsNothing("<p/>", "");
        wantsNothing("<p x='1'", ">");
        wantsNothing("<p x='1'", "y/>");
        wantsNothing("<script>", "</script>");
        wantsNothing("<style>", "</style>");
        wantsNothing("<title>", "</title>");
    }

    private static void attributes() {
        wants("<p a", 3, ">", "/>", " >", "\n>", "b>", "->", "=''>");
        wants("<p a-b", 3, ">", "/>");
        wants("<p b a", 5, ">", " />");
        wants("<p b=\"\"a", 7, ">");
        wants("<p a=", 3, "''>", "\"\">", " ''>");
        wants("<p a =", 3, "''>", "\n\"\">");
        wants("<p a \n=", 3, "''>");
        wants("<p a= ", 3, "''>", "\"\">");
        wants("<p a = \n", 3, "''>", " \"\">");
        wants("<p href=", 3, "''>");
        wants("<p on=", 3, "''>");
        wantsNothing("<p a ", ">");
        wantsNothing("<p a ", "b/>");
        wantsNothing("<p a-\n \n", "/>");
        wantsNothing("<p a='", "'>");
        wantsNothing("<p a=\"", "\">");
        wantsNothing("<p src='", "'>");
        refused("<p a {?a}=''{/}>", 9);
        refused("<p a {*a}{/}=''>", 12);
    }

    private static void plainAndUrl() {
        wants("<p x='&", 6, "'>", " '>", ";'>", "{{'>");
        wants("<p x='&amp", 6, "'>", ";'>");
        wants("<p x=\"&#3", 6, "\">", ";\">", "'\">");
        wants("<a href='&", 9, "'>", " '>");
        wants("<a href='&amp", 9, "'>", ";'>");
        wants("<a href='%", 9, "'>", "20'>", "{{{{'>");
        wants("<a href='%2", 9, "'>", "0'>", "{{'>");
        wants("<a href='?%2", 10, "'>", "0'>");
        wants("<a href='x%", 10, "'>", "%%'>");
        wantsNothing("<p x='%", "'>");
        wantsNothing("<p x='&amp;", "'>");
        wantsNothing("<a href='%20", "'>");
        wantsNothing("<a href='?", "'>");
        wantsNothing("<a href='#", "'>");
        wantsNothing("<a href='x", "'>");
    }

    private static void script() {
        wants("<script>/", 8, "/\n</script>", "**/</script>");
        wants("<script>x/", 9, "/\n</script>", "**/</script>");
        wants("<script><", 8, " </script>", "x</script>", "<b</script>", "{{</script>", "'x'</script>");
        wantsWhole("<script>", "</script>", 1, "");
        wantsWhole("<script>x", "</script>", 1, "");
        wants("<script>'\\", 9, "x'</script>", "''</script>", "\n'</script>", "{{'</script>", "\\'</script>");
        wants("<script>\"\\", 9, "x\"</script>", "\"\"</script>", "'\"</script>");
        wants("<script>'<", 9, "x'</script>", "'</script>", "{{'</script>");
        wants("<script>\"<", 9, "x\"</script>", "\"</script>");
        wants("<script>//<", 10, "x\n</script>", "\n</script>");
        wants("<script>/*<", 10, "x*/</script>", "*/</script>");
        wants("<script>/**", 10, "/</script>", "x*/</script>", "*/</script>", "{{*/</script>");
        wants("<script>/* *", 11, "/</script>", "\n*/</script>");
        wantsNothing("<script>'", "'</script>");
        wantsNothing("<script>\"", "\"</script>");
        wantsNothing("<script>//", "\n</script>");
        wantsNothing("<script>/*", "*/</script>");
        wantsNothing("<script>'x'", "</script>");
        wantsNothing("<script>//\n", "</script>");
        wantsNothing("<script>/**/", "</script>");
        wantsNothing("<script>'\\x", "'</script>");
        wantsNothing("<script>'\\'", "'</script>");
        wantsNothing("<script></script>", "");
        wantsNothing("<script>\\&", "</script>");
    }

    private static void scriptValue() {
        wants("<p on='/", 7, "/\n'>", "**/'>");
        wants("<p on='\"\\", 8, "x\"'>", "\"\"'>", "\n\"'>", "{{\"'>");
        wants("<p on=\"'\\", 8, "x'\">", "''\">");
        wants("<p on='/**", 9, "/'>", "x*/'>", "*/'>");
        wantsNothing("<p on='<", "'>");
        wantsNothing("<p on='\"<", "\"'>");
        wantsNothing("<p on='//<", "\n'>");
        wantsNothing("<p on='/*<", "*/'>");
        wantsNothing("<p on='/*</", "*/'>");
    }

    private static void style() {
        wants("<style>/", 7, "x</style>", "</style>", "**/</style>", " </style>", "{{</style>");
        wants("<style>x/", 8, "x</style>", "'y'</style>");
        wants("<style><", 7, " </style>", "x</style>");
        wantsWhole("<style>", "</style>", 1, "");
        wantsWhole("<style>x", "</style>", 1, "");
        wants("<style>'\\", 8, "x'</style>", "''</style>", "\n'</style>");
        wants("<style>\"\\", 8, "x\"</style>", "\"\"</style>");
        wants("<style>'<", 8, "x'</style>", "'</style>");
        wants("<style>\"<", 8, "x\"</style>");
        wants("<style>/*<", 9, "x*/</style>", "*/</style>");
        wants("<style>/**", 9, "/</style>", "x*/</style>", "*/</style>");
        wantsNothing("<style>/*", "*/</style>");
        wantsNothing("<style>'", "'</style>");
        wantsNothing("<style>\"", "\"</style>");
        wantsNothing("<style>`", "</style>");
        wantsNothing("<style></style>", "");
    }

    private static void styleValue() {
        wants("<p style='/", 10, "x'>", "'>", "**/'>");
        wants("<p style='\"\\", 11, "x\"'>", "\"\"'>");
        wants("<p style=\"'\\", 11, "x'\">", "''\">");
        wants("<p style='/**", 12, "/'>", "x*/'>", "*/'>");
        wantsNothing("<p style='<", "'>");
        wantsNothing("<p style='\"<", "\"'>");
        wantsNothing("<p style='/*<", "*/'>");
    }

    private static void titleAndComment() {
        wantsWhole("<title>", "</title>", 1, "");
        wantsWhole("<title>x", "</title>", 1, "");
        wants("<title>&", 7, "</title>", " </title>", ";</title>", "{{</title>");
        wants("<title>&amp", 7, "</title>", ";</title>");
        wantsNothing("<title>x", "</title>");
        wantsNothing("<title></title>", "");
        wants("<!---", 4, "->", "-->", "{{{{-->", "x-->");
        wants("<!----", 4, ">", "->", "x-->", "-->");
        wants("<!-- -x", 5, "-->", "x-->");
        wants("<!---->x<!---", 12, "->");
        wantsNothing("<!--x", "-->");
        wantsNothing("<!---->", "");
        wantsNothing("<!--- x", "-->");
    }
}
