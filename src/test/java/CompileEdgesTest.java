/** The boundary cases of promises 6 to 9. */
public final class CompileEdgesTest {
    private static final Check CHECK = new Check("CompileEdgesTest");
    private static final boolean[] BOTH = {true, false};

    public static void main(String[] args) {
        emptyTemplate();
        for (boolean first : BOTH) {
            compileOrAccept(first);
            for (boolean second : BOTH) {
                refusedBehindGood(first, second);
                goodBehindRefused(first, second);
                refusedBehindRefused(first, second);
            }
            faultStays(first);
            faultPlaces(first);
            openAtATime(first);
        }
        holeCounts();
        holeNumbers();
        noHoles();
        otherTemplatesHoles();
        CHECK.end();
    }

    /** Compiles by one or the other call; the answer that is due shows whether it was refused. */
    private static void compiles(Run run, boolean byCompile, boolean good, int holes, String what) {
        if (byCompile) {
            CHECK.same("compile " + what, good ? (Object) holes : Run.ARGUMENT, run.compile());
        } else {
            CHECK.same("accepts " + what, good, run.accepts());
        }
    }

    private static void isCompiled(Run run, int firstHole, int length, String what) {
        CHECK.same("hole(0), " + what, firstHole, run.hole(0));
        CHECK.same("write, " + what, length, run.write());
    }

    private static void isNotCompiled(Run run, String what) {
        for (int k = -1; k <= 3; k++) {
            CHECK.same("hole(" + k + "), " + what, Run.NONE, run.hole(k));
        }
        CHECK.same("write, " + what, Run.UNSUPPORTED, run.write());
    }

    private static void emptyTemplate() {
        for (boolean byCompile : BOTH) {
            Run run = new Run();
            compiles(run, byCompile, true, 0, "an empty template");
            CHECK.same("its fault", Run.NONE, run.fault());
            isCompiled(run, Run.NONE, 0, "an empty template");
            run.added("{a}{b}");
            run.clear();
            compiles(run, byCompile, true, 0, "an empty template behind clear");
            isCompiled(run, Run.NONE, 0, "an empty template behind clear");
            run.clear();
            run.compiled("<");
            run.clear();
            compiles(run, byCompile, true, 0, "an empty template behind a refused one");
            CHECK.same("its fault", Run.NONE, run.fault());
        }
    }

    private static void compileOrAccept(boolean byCompile) {
        Run run = new Run().added("{b}x{a}").given(0, "i").typed("row");
        compiles(run, byCompile, true, 2, "{b}x{a}");
        isCompiled(run, 0, 2, "compiled");
        compiles(run, byCompile, true, 2, "once more");
        isCompiled(run, 0, 2, "compiled twice");
        CHECK.same("the row is left", 3, run.wipe());
        CHECK.same("the items are left", 1, run.forget(0));
        CHECK.same("the template is left", 7, run.clear());
        Run written = new Run().compiled("{a}uv");
        written.write();
        written.added("w");
        compiles(written, byCompile, true, 1, "{a}uvw");
        CHECK.same("compiling leaves the writing", "uv", written.text());
        written.added("<");
        compiles(written, byCompile, false, 0, "{a}uvw<");
        CHECK.same("refusing leaves the writing", "uv", written.text());
    }

    private static void refusedBehindGood(boolean first, boolean second) {
        Run run = new Run().added("{a}x");
        compiles(run, first, true, 1, "{a}x");
        CHECK.same("fault", Run.NONE, run.fault());
        run.added("{b}<");
        compiles(run, second, false, 0, "{a}x{b}<");
        CHECK.same("fault of what is refused", 7, run.fault());
        isNotCompiled(run, "refused behind a good one");
        run.clear();
        run.added("{a}");
        isNotCompiled(run, "good, but not compiled yet");
        CHECK.same("fault, not compiled yet", 7, run.fault());
    }

    private static void goodBehindRefused(boolean first, boolean second) {
        Run run = new Run().added("x{a}<p");
        compiles(run, first, false, 0, "x{a}<p");
        CHECK.same("fault", 4, run.fault());
        isNotCompiled(run, "refused");
        run.added(">{b}");
        CHECK.same("fault, more being added", 4, run.fault());
        compiles(run, second, true, 2, "x{a}<p>{b}");
        CHECK.same("fault behind a good one", Run.NONE, run.fault());
        isCompiled(run, 0, 4, "good behind a refused one");
        compiles(run, first, true, 2, "once more");
        CHECK.same("fault behind two good ones", Run.NONE, run.fault());
    }

    private static void refusedBehindRefused(boolean first, boolean second) {
        Run run = new Run().added("abc<");
        compiles(run, first, false, 0, "abc<");
        compiles(run, second, false, 0, "abc< again");
        CHECK.same("the same fault", 3, run.fault());
        run.clear();
        run.added("&");
        CHECK.same("the earlier fault", 3, run.fault());
        compiles(run, second, false, 0, "&");
        CHECK.same("the fault of the latest", 0, run.fault());
        run.clear();
        run.added("abcdef{?a}");
        compiles(run, first, false, 0, "abcdef{?a}");
        CHECK.same("the fault of the latest, once more", 10, run.fault());
        isNotCompiled(run, "refused three times");
    }

    private static void faultStays(boolean byCompile) {
        Run run = new Run().added("{a}ab<");
        compiles(run, byCompile, false, 0, "{a}ab<");
        run.typed("row");
        CHECK.same("fault behind type", 5, run.fault());
        run.wipe();
        CHECK.same("fault behind wipe", 5, run.fault());
        run.add();
        CHECK.same("fault behind add of an empty row", 5, run.fault());
        run.added("xy");
        CHECK.same("fault behind add", 5, run.fault());
        run.clear();
        CHECK.same("fault behind clear", 5, run.fault());
        run.added("x");
        CHECK.same("fault with a shorter template", 5, run.fault());
        run.given(0, "i");
        run.forget(0);
        run.write();
        CHECK.same("fault behind item, forget and write", 5, run.fault());
        run.written();
        run.letter(0);
        run.hole(0);
        run.fault();
        CHECK.same("fault behind calls that only look", 5, run.fault());
    }

    private static void faultPlaces(boolean byCompile) {
        String[] atTheStart = {"<", "&", "{", "{:}", "{/}", "{x}", "<p", "</p", "<{a}>", "{/}{a}"};
        for (String template : atTheStart) {
            Run run = new Run().added(template);
            compiles(run, byCompile, false, 0, template);
            CHECK.same("fault at place 0: " + template, 0, run.fault());
        }
        String[] atTheEnd = {"{?a}", "{*h}", "{?a}{:}", "{?a}x", "<p ", "<p x='", "<title>", "<!--", "<script>'", "{{<p "};
        for (String template : atTheEnd) {
            Run run = new Run().added(template);
            compiles(run, byCompile, false, 0, template);
            CHECK.same("fault is the length: " + template, template.length(), run.fault());
        }
        Run last = new Run().added("x".repeat(239) + "<");
        compiles(last, byCompile, false, 0, "240 characters with a wrong last");
        CHECK.same("fault at the last of 240", 239, last.fault());
        Run end = new Run().added("x".repeat(236) + "{?a}");
        compiles(end, byCompile, false, 0, "240 characters with something open");
        CHECK.same("fault at the end of 240", 240, end.fault());
    }

    private static void openAtATime(boolean byCompile) {
        String[] openers = {"{?a}", "{*b}", "{?c}{:}"};
        for (String opener : openers) {
            String closers = "{/}".repeat(6);
            Run six = new Run().added(opener.repeat(6) + "{h}" + closers);
            compiles(six, byCompile, true, 1, "six open of " + opener);
            Run open = new Run().added(opener.repeat(6));
            compiles(open, byCompile, false, 0, "six open of " + opener + " that stay open");
            CHECK.same("fault", 6 * opener.length(), open.fault());
            for (String seventh : new String[] {"{?h}", "{*h}"}) {
                Run seven = new Run().added(opener.repeat(6) + seventh + "{/}" + closers);
                compiles(seven, byCompile, false, 0, "seven open of " + opener + " with " + seventh);
                CHECK.same("fault at the seventh", 6 * opener.length(), seven.fault());
            }
            Run again = new Run().added(opener.repeat(6) + "{/}{?h}{/}{/}{*h}{/}" + "{/}".repeat(4));
            compiles(again, byCompile, true, 0, "six open, closed, and six again, of " + opener);
            Run many = new Run().added((opener + "{/}").repeat(20));
            compiles(many, byCompile, true, 0, "twenty one behind another of " + opener);
        }
        Run mixed = new Run().added("{?a}{*a}{?b}{:}{*b}{?c}{:}{*c}{/}{?d}{*e}{/}");
        compiles(mixed, byCompile, false, 0, "seven open of all kinds");
        CHECK.same("fault at the seventh of all kinds", 37, mixed.fault());
    }

    private static void holeCounts() {
        int[] counts = {0, 1, 2, 79, 80};
        for (int count : counts) {
            Run run = new Run().added("{h}".repeat(count));
            CHECK.same("compile " + count + " holes", count, run.compile());
            CHECK.same("hole -1 of " + count, Run.NONE, run.hole(-1));
            CHECK.same("the first of " + count, count == 0 ? Run.NONE : 0, run.hole(0));
            CHECK.same("the last of " + count, count == 0 ? Run.NONE : 0, run.hole(count - 1));
            CHECK.same("the one behind it", Run.NONE, run.hole(count));
        }
        Run branches = new Run().added("{?a}{a}{:}{b}{c}{/}{*d}{d}{/}");
        CHECK.same("holes of both branches and of loops, each once", 4, branches.compile());
        Run none = new Run().added("{{a}{?a}{:}{/}{*b}{/}");
        CHECK.same("what is no hole", 0, none.compile());
        CHECK.same("what is no hole: hole(0)", Run.NONE, none.hole(0));
    }

    private static void holeNumbers() {
        String[] templates = {"<a href='{a}{b}#{c}' x='{d}'>{e}", "<script>{a}'{b}'\"{c}\"</script>", "<title>{a}</title>",
            "<style>{a}'{b}'\"{c}\"</style>", "<p on=\"{a}'{b}'\">", "<p on='{a}\"{b}\"'>", "<p style=\"{a}'{b}'\">",
            "<p style='{a}\"{b}\"'>", "{?a}<p on='{a}'>{:}<p src='{b}'>{/}"};
        int[][] codes = {{2, 3, 4, 1, 0}, {8, 9, 10}, {0}, {12, 13, 14}, {24, 25}, {24, 26}, {28, 29}, {28, 30}, {24, 2}};
        for (int t = 0; t < templates.length; t++) {
            Run run = new Run().added(templates[t]);
            CHECK.same("compile " + templates[t], codes[t].length, run.compile());
            for (int k = 0; k < codes[t].length; k++) {
                CHECK.same("hole " + k + " of " + templates[t], codes[t][k], run.hole(k));
            }
            CHECK.same("behind the last of " + templates[t], Run.NONE, run.hole(codes[t].length));
        }
    }

    private static void noHoles() {
        int[] none = {-1, -2, -240, 3, 4, 79, 80, 239, 240, 241, 65536, Integer.MIN_VALUE, Integer.MIN_VALUE + 1,
            Integer.MAX_VALUE, Integer.MAX_VALUE - 1};
        Run compiled = new Run().compiled("{a}{b}{c}");
        Run notYet = new Run().added("{a}{b}{c}");
        Run refused = new Run().compiled("{a}{b}{c}<");
        Run unused = new Run();
        for (int k : none) {
            CHECK.same("hole " + k + " of three", Run.NONE, compiled.hole(k));
            CHECK.same("hole " + k + ", not compiled", Run.NONE, notYet.hole(k));
            CHECK.same("hole " + k + ", refused", Run.NONE, refused.hole(k));
            CHECK.same("hole " + k + ", new", Run.NONE, unused.hole(k));
        }
        for (int k = 0; k < 3; k++) {
            CHECK.same("hole " + k + " of three", 0, compiled.hole(k));
            CHECK.same("hole " + k + ", not compiled", Run.NONE, notYet.hole(k));
            CHECK.same("hole " + k + ", refused", Run.NONE, refused.hole(k));
        }
    }

    /** Holes of a template that was compiled earlier are not those of the one that is compiled now. */
    private static void otherTemplatesHoles() {
        Run run = new Run().compiled("<p x='{a}{b}{c}'>");
        run.clear();
        CHECK.same("compile a shorter one", 1, run.added("{a}").compile());
        CHECK.same("its hole", 0, run.hole(0));
        CHECK.same("no second", Run.NONE, run.hole(1));
        CHECK.same("no third", Run.NONE, run.hole(2));
        run.added("{b}<");
        run.accepts();
        CHECK.same("none of what is refused", Run.NONE, run.hole(0));
        run.clear();
        CHECK.same("compile one with two", 2, run.added("<p x='{a}{b}'>").compile());
        CHECK.same("its first", 1, run.hole(0));
        CHECK.same("its second", 1, run.hole(1));
        CHECK.same("no third any more", Run.NONE, run.hole(2));
    }
}
