import java.util.ArrayList;
import java.util.List;

/** Each place of the terms at which a template is refused, with its fault, and right beside it what is not refused. */
public final class RefusalsTest {
    private static final Check CHECK = new Check("RefusalsTest");
    private static final String LETTERS = "abcdefghijklmnopqrstuvwxyz";
    private static final String ALL = all();

    /** The name of a context, a text that leads to it from TEXT and one that leads back; same names are same contexts. */
    private static final String[][] CONTEXTS = contexts();

    public static void main(String[] args) {
        symbols();
        cutSymbols();
        charactersOfTextAndTag();
        charactersOfAttributes();
        charactersOfValues();
        charactersOfScript();
        charactersOfStyle();
        charactersBehindBackslash();
        charactersOfTitleAndComment();
        endTags();
        elements();
        holes();
        ends();
        branches();
        branchesBegin();
        loops();
        nothingOpen();
        CHECK.end();
    }

    private static String all() {
        StringBuilder b = new StringBuilder("\n");
        for (char c = 32; c <= 126; c++) {
            b.append(c);
        }
        return b.toString();
    }

    private static String allBut(String some) {
        StringBuilder b = new StringBuilder();
        for (char c : ALL.toCharArray()) {
            b.append(some.indexOf(c) < 0 ? "" + c : "");
        }
        return b.toString();
    }

    private static Object faultOf(String template) {
        Run run = new Run().added(template);
        boolean accepted = Boolean.TRUE.equals(run.accepts());
        Object fault = run.fault();
        CHECK.same("accepts " + template + ", with its fault", accepted, fault.equals(Run.NONE));
        return fault;
    }

    private static void refused(String template, int fault) {
        CHECK.same("fault of " + template, fault, faultOf(template));
    }

    private static void read(String template) {
        CHECK.same("fault of " + template, Run.NONE, faultOf(template));
    }

    /** Of all characters, with this before and that behind them, just these have their fault at this place. */
    private static void refusedOnes(String before, String behind, int fault, String due) {
        StringBuilder got = new StringBuilder();
        for (char c : ALL.toCharArray()) {
            String written = c == '{' ? "{{" : "" + c;
            got.append(faultOf(before + written + behind).equals(fault) ? "" + c : "");
        }
        CHECK.same("what is refused between " + before + " and " + behind + " at " + fault, due, got.toString());
    }

    private static void refusedOnes(String before, String behind, String due) {
        refusedOnes(before, behind, before.length(), due);
    }

    private static void symbols() {
        for (char c : ALL.toCharArray()) {
            boolean variable = "abcdefgh".indexOf(c) >= 0;
            int end = c == '/' ? Run.NONE : 7;
            refused("{?a}{" + c + "}", variable || ":/{".indexOf(c) >= 0 ? end : 4);
            refused("x{?" + c + "}{/}", variable ? Run.NONE : 1);
            refused("x{*" + c + "}{/}", variable ? Run.NONE : 1);
            boolean whole = c == '}';
            refused("x{a" + c, whole ? Run.NONE : 1);
            refused("{?b}{:" + c, whole ? 7 : 4);
            refused("{?b}{/" + c, whole ? Run.NONE : 4);
            refused("x{?a" + c, whole ? 5 : 1);
            refused("x{*a" + c, whole ? 5 : 1);
        }
    }

    /** A { with what is left of a symbol that the template's end cuts off. */
    private static void cutSymbols() {
        String[] cut = {"{", "{a", "{h", "{:", "{/", "{?", "{*", "{?a", "{*h", "{}", "{?}", "{*}", "{??}", "{**}", "{*?a}", "{ a}"};
        for (String symbol : cut) {
            refused(symbol, 0);
            refused("x" + symbol, 1);
            refused("{?b}" + symbol, 4);
            refused("{{" + symbol, 2);
            refused("<p " + symbol, 3);
            refused("<!--" + symbol, 4);
        }
        read("{{");
        read("{{a}");
        read("{{{{");
        read("{{{a}");
        read("{{?a}{{:}{{/}");
        read("}");
        read("}}");
        refused("{{{", 2);
        refused("{{{{{", 4);
    }

    private static void charactersOfTextAndTag() {
        refusedOnes("", " z", "<");
        refusedOnes("", "", "&<");
        refusedOnes("<p>", "{a}", "&<");
        refusedOnes("<", ">", 0, allBut(LETTERS));
        refusedOnes("<p", ">", 0, allBut("\n />" + LETTERS));
        refusedOnes("<p", " >", 0, allBut("\n />" + LETTERS));
        refusedOnes("</", ">", 0, allBut(LETTERS));
        refusedOnes("</p", ">", 0, allBut(">" + LETTERS));
        refusedOnes("<!", "-x", 0, allBut("-"));
        refusedOnes("<!-", "x", 0, allBut("-"));
        String others = allBut("\n >" + LETTERS);
        refusedOnes("<p ", " ", others);
        refusedOnes("<p x=''", " ", others);
        refusedOnes("<title ", " ", others);
        refusedOnes("<p ", ">", allBut("\n />" + LETTERS));
        refusedOnes("<p x=''", ">", allBut("\n />" + LETTERS));
        refusedOnes("<script ", ">", others);
        refusedOnes("<style ", ">", others);
        refusedOnes("<title ", ">", others);
        refusedOnes("<p /", " ", 3, allBut(">"));
    }

    private static void charactersOfAttributes() {
        refusedOnes("<p a", " >", 3, allBut("\n -/>" + LETTERS));
        refusedOnes("<p a", "''>", 3, allBut("\n /=>"));
        refusedOnes("<p a ", "'>", 3, "");
        refusedOnes("<p a ", ">", 3, "=");
        refusedOnes("<p a ", ">", allBut("\n /=>" + LETTERS));
        refusedOnes("<p a=", "x", 3, allBut("\"'"));
        refusedOnes("<p a =\n", "x", 3, allBut("\"'"));
        refusedOnes("<p a=", "'", 3, allBut("\n \"'"));
        refusedOnes("<p -", "", 3, ALL);
        read("<p a--b-->");
        read("<p z- y=''>");
    }

    private static void charactersOfValues() {
        refusedOnes("<p x='", " z", "");
        refusedOnes("<p x='", "", "&");
        refusedOnes("<p x=\"", "z{a}", "&");
        refusedOnes("<a href='", "  ", "");
        refusedOnes("<a href='", "zz", "&");
        refusedOnes("<a href='", "z", "%&");
        refusedOnes("<a src='?", "z{a}", "%&");
        refusedOnes("<a action=\"x", "", "%&");
        refusedOnes("<p on='", " ", "&/`");
        refusedOnes("<p on='", "/", "&`");
        refusedOnes("<p on=\"", "!", "&/`");
        refusedOnes("<p on='\"", " ", "\n&'");
        refusedOnes("<p on='\"", "/", "\n&'");
        refusedOnes("<p on=\"'", " ", "\n\"&");
        refusedOnes("<p on='//", "/", "&'");
        refusedOnes("<p on=\"//", "!", "\"&");
        refusedOnes("<p on='/*", " ", "&'");
        refusedOnes("<p on=\"/*", "/", "\"&");
        refusedOnes("<p on='/*", "", "&'*");
        refusedOnes("<p style='", " ", "&");
        refusedOnes("<p style='", "/", "&");
        refusedOnes("<p style=\"", "", "&/");
        refusedOnes("<p style='\"", " ", "\n&'");
        refusedOnes("<p style=\"'", "!", "\n\"&");
        refusedOnes("<p style='/*", "/", "&'");
        refusedOnes("<p style=\"/*", " ", "\"&");
        refusedOnes("<p style='/*", "", "&'*");
    }

    private static void charactersOfScript() {
        refusedOnes("<script>", " ", "/`");
        refusedOnes("<script>", "/", "<`");
        refusedOnes("<script>", "*", "`");
        refusedOnes("<script>", "!", "/<`");
        refusedOnes("<script>", "", "/<`");
        refusedOnes("<script>'", " ", "\n");
        refusedOnes("<script>\"", " ", "\n");
        refusedOnes("<script>'", "/", "\n<");
        refusedOnes("<script>\"", "!", "\n<");
        refusedOnes("<script>'", "", "\n<\\");
        refusedOnes("<script>//", " ", "");
        refusedOnes("<script>//", "/", "<");
        refusedOnes("<script>//", "!", "<");
        refusedOnes("<script>//", "", "<");
        refusedOnes("<script>/*", " ", "");
        refusedOnes("<script>/*", "/", "<");
        refusedOnes("<script>/*", "!", "<");
        refusedOnes("<script>/*", "", "*<");
        String[] parts = {"<script>", "<script>'", "<script>\"", "<script>//", "<script>/*"};
        for (String part : parts) {
            refusedOnes(part + "<", "  ", part.length(), "!/");
        }
        read("<script></script>");
        refused("<script>'</script>", 9);
        refused("<script>\"</script>", 9);
        refused("<script>//</script>", 10);
        refused("<script>/*</script>", 10);
        refused("<script></style>", 8);
        refused("<script></title>", 8);
        refusedOnes("<script></script", "", 8, allBut(">"));
    }

    private static void charactersOfStyle() {
        refusedOnes("<style>", " ", "");
        refusedOnes("<style>", "/", "<");
        refusedOnes("<style>", "!", "<");
        refusedOnes("<style>", "", "/<");
        refusedOnes("<style>'", " ", "\n");
        refusedOnes("<style>\"", "/", "\n<");
        refusedOnes("<style>'", "", "\n<\\");
        refusedOnes("<style>/*", " ", "");
        refusedOnes("<style>/*", "!", "<");
        refusedOnes("<style>/*", "", "*<");
        refusedOnes("<style>/", " ", 7, "");
        String[] parts = {"<style>", "<style>'", "<style>\"", "<style>/*"};
        for (String part : parts) {
            refusedOnes(part + "<", "  ", part.length(), "!/");
        }
        read("<style></style>");
        refused("<style>'</style>", 8);
        refused("<style>\"</style>", 8);
        refused("<style>/*</style>", 9);
        refused("<style></script>", 7);
        refusedOnes("<style></style", "", 7, allBut(">"));
    }

    private static void charactersBehindBackslash() {
        refusedOnes("<script>'\\", " ", 9, "&<");
        refusedOnes("<script>\"\\", " ", 9, "&<");
        refusedOnes("<style>'\\", " ", 8, "&<");
        refusedOnes("<style>\"\\", " ", 8, "&<");
        refusedOnes("<p on='\"\\", " ", 8, "&'<");
        refusedOnes("<p on=\"'\\", " ", 8, "\"&<");
        refusedOnes("<p style='\"\\", " ", 11, "&'<");
        refusedOnes("<p style=\"'\\", " ", 11, "\"&<");
        refusedOnes("<script>\\", " ", 8, "");
        refusedOnes("<script>//\\", " ", 10, "");
        refusedOnes("<script>/*\\", " ", 10, "");
        refusedOnes("<script>'\\\\", " ", "\n");
        refused("<script>'\\'</script>", 11);
    }

    private static void charactersOfTitleAndComment() {
        refusedOnes("<title>", " ", "<");
        refusedOnes("<title>", "", "&<");
        refusedOnes("<title><", " ", 7, ALL);
        refusedOnes("<title></title", "", 7, allBut(">"));
        refusedOnes("<!--", "  ", "");
        refusedOnes("<!--", " ", "-");
        refusedOnes("<!--", "", "-");
        refusedOnes("<!--", "{?a}{/}", "-");
        refused("<title></script>", 7);
        refused("<title></p>", 7);
    }

    private static void endTags() {
        read("</p>");
        read("</abcxyz>");
        read("</script></style></title>");
        refused("</>", 0);
        refused("</ p>", 0);
        refused("</p >", 0);
        refused("</p/>", 0);
        refused("x</p1>", 1);
    }

    /** An element other than 0 can't be closed by />, and its > leads to its own context. */
    private static void elements() {
        String[] plain = {"p", "scrip", "scripts", "xscript", "styl", "styles", "titl", "titles", "a"};
        for (String name : plain) {
            read("<" + name + "/>");
            read("<" + name + " x='' />");
            read("<" + name + "><p>");
        }
        String[] special = {"script", "style", "title"};
        for (String name : special) {
            int behind = name.length() + 1;
            refused("<" + name + "/>", behind);
            refused("<" + name + " />", behind + 1);
            refused("<" + name + " x=''/>", behind + 5);
            refused("<" + name + " x/>", behind + 2);
            refused("<" + name + ">", behind + 1);
            read("<" + name + "></" + name + ">");
            read("<" + name + " x=''></" + name + ">");
        }
    }

    private static void holes() {
        String[] may = {"", "<title>", "<p x='", "<p href='", "<p href='x", "<p href='?", "<p on='", "<p on='\"", "<p on=\"'",
            "<p style='", "<p style='\"", "<p style=\"'", "<script>", "<script>'", "<script>\"", "<style>", "<style>'", "<style>\""};
        for (String before : may) {
            String template = before + "{a}";
            refused(template, before.isEmpty() ? Run.NONE : template.length());
        }
        String[] mayNot = {"<p ", "<p a ", "<p x=''", "<script ", "<!--", "<!--x", "<script>//", "<script>//x", "<script>/*",
            "<script>/*x", "<style>/*", "<style>/*x", "<p on='//", "<p on='/*", "<p style='/*", "<p style=\"/*x"};
        for (String before : mayNot) {
            refused(before + "{a}", before.length());
            refused("{?b}" + before + "{h}", before.length() + 4);
        }
    }

    private static void ends() {
        for (String[] context : CONTEXTS) {
            boolean text = context[0].equals("TEXT");
            refused(context[1], text ? Run.NONE : context[1].length());
            refused(context[1] + "{?a}", context[1].length() + 4);
        }
        String[] open = {"{?a}", "{*a}", "{?a}{:}", "{?a}x", "{?a}{b}", "{?a}{:}y", "{*a}{?a}{/}", "{?a}{*a}{/}", "{?a}<p>"};
        for (String template : open) {
            refused(template, template.length());
            read(template + "{/}");
        }
    }

    /** Two branches that end in contexts which differ in one thing only, among all that differ. */
    private static void branches() {
        for (String[] first : CONTEXTS) {
            for (String[] second : CONTEXTS) {
                String template = "{?a}" + first[1] + "{:}" + second[1];
                boolean same = first[0].equals(second[0]);
                int end = same && first[0].equals("TEXT") ? Run.NONE : template.length() + 3;
                refused(template + "{/}", same ? end : template.length());
            }
        }
        read("{?a}<p>{:}<p>{/}");
        refused("{?a}<p {:}<script {/}>", 18);
        refused("<p x='{?a}' y='{:}{/}", 21);
        refused("<p {?a}x='{:}y='{/}", 19);
    }

    /** "Both branches begin in the context where {?v} stands", however far away the first one has ended. */
    private static void branchesBegin() {
        for (String[] begin : CONTEXTS) {
            read(begin[1] + begin[2]);
            read(begin[1] + "{?a}" + begin[2] + "{:}" + begin[2] + "{/}");
            for (String[] end : CONTEXTS) {
                String template = begin[1] + "{?a}" + begin[2] + end[1] + "{:}";
                boolean same = begin[0].equals(end[0]);
                int close = same && end[0].equals("TEXT") ? Run.NONE : template.length() + 3;
                refused(template + "{/}", same ? close : template.length());
            }
        }
    }

    /** A body, or a branch that has no other one, must end where it begins: here in TEXT, and in each other context. */
    private static void loops() {
        for (String[] context : CONTEXTS) {
            boolean text = context[0].equals("TEXT");
            int close = 4 + context[1].length();
            refused("{*a}" + context[1] + "{/}", text ? Run.NONE : close);
            refused("{?a}" + context[1] + "{/}", text ? Run.NONE : close);
            refused("{?a}{:}" + context[1] + "{/}", text ? Run.NONE : close + 3);
            refused("{*a}" + context[1] + "{:}{/}", close);
            refused(context[1] + "{*a}{/}{?a}{/}{?a}{:}{/}", text ? Run.NONE : context[1].length() + 24);
        }
        read("<p href='{?a}{a}{:}x{/}'>");
        refused("<p href='{?a}{a}{/}'>", 16);
        refused("<p href='{*a}{a}{/}'>", 16);
        refused("<p href='{*a}x{/}'>", 14);
        read("<p href='x{*a}{a}{/}'>");
        refused("<p href='x{*a}?{/}'>", 15);
        read("<p href='?{*a}?x#{a}{/}'>");
    }

    private static void nothingOpen() {
        refused("{:}", 0);
        refused("{/}", 0);
        refused("x{:}", 1);
        refused("x{/}", 1);
        refused("{?a}{/}{/}", 7);
        refused("{?a}{/}{:}", 7);
        refused("{?a}{:}{/}{/}", 10);
        refused("{?a}{:}{:}{/}", 7);
        refused("{?a}{:}x{:}{/}", 8);
        refused("{*a}{/}{/}", 7);
        refused("{*a}{:}{/}", 4);
        refused("{?a}{*b}{:}{/}{/}", 8);
        refused("{*a}{?b}{:}{/}{:}{/}", 14);
        refused("{?a}{:}{?b}{/}{:}{/}", 14);
        read("{*a}{?b}{:}{/}{/}");
        read("{?a}{?b}{:}{/}{:}{?c}{:}{/}{/}");
    }

    private static String[][] contexts() {
        List<String[]> list = new ArrayList<>();
        String[] texts = {"", "x", "<p>", "</p>", "<title></title>", "<script>'x'</script>", "<p x=''/>", "<!---->", "&;"};
        for (String text : texts) {
            list.add(new String[] {"TEXT", text, ""});
        }
        list.add(new String[] {"COMMENT", "<!--", "-->"});
        list.add(new String[] {"COMMENT", "<!--x", "-->"});
        list.add(new String[] {"TITLE", "<title>", "</title>"});
        list.add(new String[] {"TITLE", "<title x=''>y", "</title>"});
        codes(list, "SCRIPT", "<script>", "</script>", "'", "\"", "//", "/*");
        codes(list, "STYLE", "<style>", "</style>", "'", "\"", "/*");
        tags(list, "p", "");
        tags(list, "script", "a<1</script>");
        tags(list, "style", "a<1</style>");
        tags(list, "title", "</title>");
        list.add(new String[] {"TAG p", "<q src=\"?\" ", ">"});
        list.add(new String[] {"VALUE p ' PLAIN", "<br y=\"z\" x-y = '", "'>"});
        list.add(new String[] {"VALUE p ' URL", "<q action='", "'>"});
        list.add(new String[] {"VALUE p ' URL 1", "<q src='/x", "'>"});
        list.add(new String[] {"VALUE p ' URL 2", "<q src='/x#", "'>"});
        list.add(new String[] {"VALUE p ' URL 2", "<q src='?x/", "'>"});
        list.add(new String[] {"VALUE p ' SCRIPT ", "<q onx='y", "'>"});
        return list.toArray(new String[0][]);
    }

    private static void tags(List<String[]> list, String element, String end) {
        String start = "<" + element + " ";
        list.add(new String[] {"TAG " + element, start, ">" + end});
        list.add(new String[] {"TAG " + element, start + "x='' ", ">" + end});
        list.add(new String[] {"TAG " + element, start + "on='' y ", ">" + end});
        for (String quote : new String[] {"'", "\""}) {
            String other = quote.equals("'") ? "\"" : "'";
            String value = "VALUE " + element + " " + quote + " ";
            String back = quote + ">" + end;
            list.add(new String[] {value + "PLAIN", start + "x=" + quote, back});
            list.add(new String[] {value + "PLAIN", start + "y=" + quote + "z", back});
            list.add(new String[] {value + "URL", start + "href=" + quote, back});
            list.add(new String[] {value + "URL 1", start + "href=" + quote + "x", back});
            list.add(new String[] {value + "URL 2", start + "href=" + quote + "?", back});
            codes(list, value + "SCRIPT", start + "on=" + quote, back, other, "//", "/*");
            codes(list, value + "STYLE", start + "style=" + quote, back, other, "/*");
        }
    }

    /** Part 0, once more behind each other part, and these other parts. */
    private static void codes(List<String[]> list, String name, String start, String back, String... parts) {
        list.add(new String[] {name + " ", start, back});
        for (String part : parts) {
            String end = part.equals("//") ? "\n" : part.equals("/*") ? "*/" : part;
            list.add(new String[] {name + " " + part, start + part, end + back});
            list.add(new String[] {name + " ", start + part + "x" + end, back});
        }
    }
}
