/** Promises 6 to 9: compile, accepts, fault, hole. */
public final class CompileTest {
    private static final Check CHECK = new Check("CompileTest");
    private static final int NONE = HoleTemplates.NONE;

    public static void main(String[] args) {
        compiling();
        refusing();
        accepting();
        faults();
        holes();
        symbols();
        branches();
        depth();
        oneTemplateAfterAnother();
        CHECK.end();
    }

    private static void compiling() {
        CHECK.same("compile the empty template", 0, new HoleTemplates().compile());
        CHECK.same("compile without holes", 0, Bench.withTemplate("<p>x</p>").compile());
        CHECK.same("compile {{a}", 0, Bench.withTemplate("{{a}").compile());
        CHECK.same("compile {{{a}", 1, Bench.withTemplate("{{{a}").compile());
        CHECK.same("compile 80 holes", 80, Bench.withTemplate(Bench.times("{h}", 80)).compile());
        CHECK.same("holes in both branches count", 3, Bench.withTemplate("{?a}{b}{:}{c}{/}{*d}{d}{/}").compile());
    }

    private static void refusing() {
        HoleTemplates x = Bench.withTemplate("ab<");
        Bench.typeAll(x, "row");
        CHECK.thrown("compile ab<", IllegalArgumentException.class, x::compile);
        CHECK.same("fault", 2, x.fault());
        CHECK.same("hole", NONE, x.hole(0));
        CHECK.thrown("write", UnsupportedOperationException.class, x::write);
        CHECK.same("the row is left", 3, x.wipe());
        CHECK.same("the template is left", 3, x.clear());
    }

    private static void accepting() {
        HoleTemplates x = Bench.withTemplate("{a}");
        CHECK.same("accepts", true, x.accepts());
        CHECK.same("accepts compiles: hole", 0, x.hole(0));
        CHECK.same("accepts compiles: write", 0, x.write());
        Bench.addAll(x, "&");
        CHECK.same("accepts {a}&", false, x.accepts());
        CHECK.same("its fault", 3, x.fault());
        CHECK.same("hole, refused", NONE, x.hole(0));
        CHECK.thrown("write, refused", UnsupportedOperationException.class, x::write);
    }

    private static void faults() {
        HoleTemplates x = Bench.withTemplate("abc<");
        CHECK.same("fault, nothing compiled", NONE, x.fault());
        x.accepts();
        CHECK.same("fault", 3, x.fault());
        x.clear();
        CHECK.same("fault, template cleared", 3, x.fault());
        Bench.addAll(x, "x");
        CHECK.same("fault, another template", 3, x.fault());
        CHECK.thrown("write does not compile", UnsupportedOperationException.class, x::write);
        CHECK.same("fault, still", 3, x.fault());
        x.compile();
        CHECK.same("fault behind a compiling that did not refuse", NONE, x.fault());
        Bench.addAll(x, "{");
        x.accepts();
        CHECK.same("fault of x{", 1, x.fault());
        x.clear();
        CHECK.same("accepts the empty one", true, x.accepts());
        CHECK.same("fault behind accepts", NONE, x.fault());
    }

    private static void holes() {
        HoleTemplates x = Bench.withTemplate("{a}<title>{b}</title><p x='{c}'>");
        x.compile();
        CHECK.same("hole(0)", 0, x.hole(0));
        CHECK.same("hole(1)", 0, x.hole(1));
        CHECK.same("hole(2)", 1, x.hole(2));
        CHECK.same("hole(3)", NONE, x.hole(3));
        CHECK.same("hole(-1)", NONE, x.hole(-1));
        CHECK.same("hole(min)", NONE, x.hole(Integer.MIN_VALUE));
        CHECK.same("hole(max)", NONE, x.hole(Integer.MAX_VALUE));
        x.clear();
        Bench.addAll(x, "{a}");
        x.compile();
        CHECK.same("hole(1) of the next template", NONE, x.hole(1));
        codes("<a href=\"{a}{b}?{c}#{d}\">", "2 3 4 4");
        codes("<a src='/{a}'><form action=\"#{a}\">", "3 4");
        codes("<script>{a}'{b}'\"{c}\"</script>", "8 9 10");
        codes("<style>{a}'{b}'\"{c}\"</style>", "12 13 14");
        codes("<p onclick=\"{a}'{b}'\" on='{c}\"{d}\"'>", "24 25 24 26");
        codes("<p style=\"{a}'{b}'\" style='{c}\"{d}\"'>", "28 29 28 30");
        String all = Bench.times("{a}", 80);
        codes(all, Bench.times("0 ", 80).trim());
    }

    private static void codes(String template, String due) {
        HoleTemplates x = Bench.withTemplate(template);
        CHECK.same("accepts " + template, true, x.accepts());
        CHECK.same("holes of " + template, due, Bench.holes(x));
    }

    private static void refused(String template, int fault) {
        HoleTemplates x = Bench.withTemplate(template);
        CHECK.same("accepts " + template, false, x.accepts());
        CHECK.same("fault of " + template, fault, x.fault());
        CHECK.thrown("compile " + template, IllegalArgumentException.class, x::compile);
        CHECK.same("fault of compile of " + template, fault, x.fault());
    }

    private static void symbols() {
        refused("{", 0);
        refused("ab{", 2);
        refused("{a", 0);
        refused("{i}", 0);
        refused("{A}", 0);
        refused("{}", 0);
        refused("{ab}", 0);
        refused("{?}", 0);
        refused("{?i}{/}", 0);
        refused("{?a", 0);
        refused("{*}", 0);
        refused("{*z}{/}", 0);
        refused("{*aa}{/}", 0);
        refused("{: }", 0);
        refused("{/ }", 0);
        refused("{{{", 2);
        refused("{a}{b}x{1}", 7);
        refused("&{x", 0);
        codes("}{{}{h}", "0");
        refused("{:}", 0);
        refused("{/}", 0);
        refused("x{?a}{/}{/}", 8);
        refused("{?a}{:}{:}{/}", 7);
        refused("{*a}{:}{/}", 4);
        refused("{?a}{*b}{:}{/}{/}", 8);
        refused("{?a}{/x}{/}", 4);
        refused("{?a}{x}{/}", 4);
        refused("{?a}{:x}{/}", 4);
        refused("{?a}{::}{/}", 4);
        refused("{?a}", 4);
        refused("{*a}xyz", 7);
        refused("{?a}{:}", 7);
    }

    private static void branches() {
        refused("{?a}<p{/}>", 4);
        refused("{?a}<p {/}>", 7);
        refused("{?a}<p {:}<title {/}>", 17);
        codes("{?a}<p {:}<q {/}>", "");
        codes("{?a}<title {:}<title x {/}></title>", "");
        codes("{?a}<p>{:}<title></title>{/}", "");
        codes("{?a}<p x=''>{:}<p src=\"\">{/}", "");
        codes("{?a}<p x='' {:}<p on=\"\" {/}>", "");
        codes("{?a}<script>'x'</script>{:}{/}", "");
        codes("<p x='{?a}' y=\"{:}' z=\"{/}\">", "");
        codes("<p {?a}><title {:}><title {/}></title>", "");
        codes("<p x='{?a}' on='{:}`' on='{/}'>", "");
        codes("<script>{?a}'{:}{b}'{/}{c}'</script>", "8 9");
        codes("{?a}<p x='{:}<p y='{/}'>", "");
        refused("{?a}<p x='{:}<p y=\"{/}'>", 19);
        refused("{?a}<p x='{:}<p src='{/}'>", 21);
        refused("{?a}<p x='{:}<title x='{/}'>", 23);
        refused("<a href='{?a}x{/}'>", 14);
        codes("<a href='{?a}x{:}y{/}{a}'>", "3");
        codes("<a href='{?a}{a}{:}y{/}'>", "2");
        refused("<a href='{?a}x{:}?{/}'>", 18);
        refused("<a href='{*a}{a}{/}'>", 16);
        codes("<a href='/{*a}{a}{/}'>", "3");
        codes("<a href='{?a}#{:}?{/}{a}'>", "4");
        refused("<script>{?a}'{/}'</script>", 13);
        refused("<script>{?a}'{:}\"{/}'</script>", 17);
        codes("<script>{?a}'{:}'x{/}{b}'</script>", "9");
        codes("<script>/*{?a}*/{:}x*/{/}</script>", "");
        codes("<!--{?a}x{:}-y {/}-->", "");
        refused("{*b}<!--{/}", 8);
        codes("{*b}<!---->{/}", "");
        refused("{?a}{:}<p {/}>", 10);
        refused("{?a}<!--{:}-->{/}", 14);
    }

    /** What an earlier template has left behind must not be seen by a shorter one. */
    private static void oneTemplateAfterAnother() {
        String[] cutOff = {"x&", "<p", "</p", "<!-", "<p a", "<p a='", "<title>&am", "<!-- -", "<script>'\\", "<style>a/"};
        int[] faults = {1, 0, 0, 0, 3, 6, 7, 5, 9, 8};
        for (int i = 0; i < cutOff.length; i++) {
            HoleTemplates x = Bench.withTemplate(Bench.times("->", 60));
            x.compile();
            x.clear();
            Bench.addAll(x, cutOff[i]);
            CHECK.same("accepts " + cutOff[i], false, x.accepts());
            CHECK.same("fault of " + cutOff[i], faults[i], x.fault());
        }
        HoleTemplates y = Bench.withTemplate("{?a}<p {b");
        CHECK.same("accepts what stays open", false, y.accepts());
        y.clear();
        Bench.addAll(y, "{c}");
        CHECK.same("compile behind it", 1, y.compile());
        y.clear();
        Bench.addAll(y, "{/}");
        CHECK.same("nothing is open behind it", false, y.accepts());
    }

    private static void depth() {
        String six = Bench.times("{?a}", 3) + Bench.times("{*b}", 3);
        codes(six + "{a}" + Bench.times("{/}", 6), "0");
        refused(six + "{?c}{/}" + Bench.times("{/}", 6), 24);
        refused(six + "{*c}{/}" + Bench.times("{/}", 6), 24);
        codes(six + Bench.times("{/}", 6) + six + Bench.times("{/}", 6), "");
        codes(Bench.times("{?a}{/}", 30), "");
        refused(six + Bench.times("{/}", 5), 39);
    }
}
