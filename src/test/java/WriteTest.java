/** Promises 12 to 14: write, written, letter. */
public final class WriteTest {
    private static final Check CHECK = new Check("WriteTest");

    public static void main(String[] args) {
        writing();
        notCompiled();
        theLimit();
        tooLongInAllWays();
        letters();
        choices();
        loops();
        manyLoops();
        oneTemplateAfterAnother();
        CHECK.end();
    }

    private static void writing() {
        CHECK.same("characters as they are", "<p>{a}\n} &amp; {</p>", Bench.write("<p>{{a}\n} &amp; {{</p>"));
        HoleTemplates x = Bench.withTemplate("<b>{a}</b>");
        x.compile();
        CHECK.same("write without items", 7, x.write());
        Bench.give(x, 'a', "<i>");
        Bench.give(x, 'a', "second");
        CHECK.same("write the first item", 16, x.write());
        CHECK.same("written", 16, x.written());
        CHECK.same("the writing", "<b>&lt;i&gt;</b>", Bench.writing(x));
        x.forget(0);
        CHECK.same("the writing stays", "<b>&lt;i&gt;</b>", Bench.writing(x));
        CHECK.same("write again", 7, x.write());
        CHECK.same("the writing is another", "<b></b>", Bench.writing(x));
    }

    private static void notCompiled() {
        HoleTemplates x = Bench.withTemplate("abc");
        CHECK.thrown("write, not compiled", UnsupportedOperationException.class, x::write);
        x.compile();
        x.write();
        Bench.addAll(x, "<");
        CHECK.thrown("write, added to", UnsupportedOperationException.class, x::write);
        CHECK.same("the writing is left", "abc", Bench.writing(x));
        CHECK.same("accepts", false, x.accepts());
        CHECK.thrown("write, refused", UnsupportedOperationException.class, x::write);
        CHECK.same("the writing is left again", 3, x.written());
        CHECK.same("fault is left", 3, x.fault());
    }

    /** A template of 6 holes in loops over 4 items of 40 characters gives 960, so 40 characters more are 1000. */
    private static HoleTemplates longOne(String more) {
        HoleTemplates x = Bench.withTemplate("{*a}{b}{b}{b}{b}{b}{b}{/}" + more);
        for (int n = 0; n < 4; n++) {
            x.item(0);
        }
        Bench.give(x, 'b', Bench.times("b", 40));
        Bench.give(x, 'c', Bench.times("&", 40));
        x.compile();
        return x;
    }

    private static void theLimit() {
        HoleTemplates x = longOne(Bench.times("x", 39));
        CHECK.same("write 999", 999, x.write());
        x = longOne(Bench.times("x", 39) + "y");
        CHECK.same("write 1000", 1000, x.write());
        CHECK.same("written 1000", 1000, x.written());
        CHECK.same("letter 999", 'y', x.letter(999));
        CHECK.same("letter 1000", (char) 0, x.letter(1000));
        HoleTemplates y = longOne(Bench.times("x", 41));
        CHECK.thrown("write 1001", IllegalStateException.class, y::write);
        CHECK.same("the writing is empty then", 0, y.written());
        CHECK.same("no letter", (char) 0, y.letter(0));
        y.forget(0);
        CHECK.same("still compiled", 41, y.write());
    }

    private static void tooLongInAllWays() {
        HoleTemplates x = longOne("{c}");
        Bench.typeAll(x, "row");
        x.forget(0);
        CHECK.same("write 200", 200, x.write());
        for (int n = 0; n < 4; n++) {
            Bench.typeAll(x, "");
        }
        CHECK.same("the row becomes an item", 1, x.item(0));
        CHECK.same("write 440", 440, x.write());
        x.item(0);
        x.item(0);
        x.item(0);
        CHECK.thrown("write 1160", IllegalStateException.class, x::write);
        CHECK.same("the writing before is gone", 0, x.written());
        CHECK.thrown("write 1160 again", IllegalStateException.class, x::write);
        CHECK.same("the items are left", 4, x.forget(0));
        CHECK.same("write 200 again", 200, x.write());
        HoleTemplates y = Bench.withTemplate("{*a}{*b}{*c}{a}{b}{c}{/}{/}{/}{a}");
        for (char v = 'a'; v <= 'c'; v++) {
            Bench.give(y, v, v + Bench.times("x", 39));
            Bench.give(y, v, v + Bench.times("x", 39));
        }
        y.compile();
        CHECK.same("8 times 120 and 40", 1000, y.write());
        Bench.give(y, 'c', "");
        CHECK.thrown("12 times 80 and more", IllegalStateException.class, y::write);
        y.forget(2);
        CHECK.same("loops end as they began, also behind a throw", 40, y.write());
        CHECK.same("the first item", 'a', y.letter(0));
    }

    private static void letters() {
        HoleTemplates x = Bench.withTemplate("xyz");
        x.compile();
        x.write();
        CHECK.same("letter(0)", 'x', x.letter(0));
        CHECK.same("letter(2)", 'z', x.letter(2));
        CHECK.same("letter(3)", (char) 0, x.letter(3));
        CHECK.same("letter(-1)", (char) 0, x.letter(-1));
        CHECK.same("letter(min)", (char) 0, x.letter(Integer.MIN_VALUE));
        CHECK.same("letter(max)", (char) 0, x.letter(Integer.MAX_VALUE));
        x.clear();
        x.compile();
        CHECK.same("write the empty template", 0, x.write());
        CHECK.same("letter(0) of it", (char) 0, x.letter(0));
    }

    private static void choices() {
        CHECK.same("item there", "1y3", Bench.write("1{?a}y{:}n{/}3", "i"));
        CHECK.same("item empty", "1n3", Bench.write("1{?a}y{:}n{/}3", ""));
        CHECK.same("no item", "1n3", Bench.write("1{?a}y{:}n{/}3"));
        CHECK.same("a blank is not empty", "y", Bench.write("{?a}y{:}n{/}", " "));
        CHECK.same("no otherwise, item there", "1y3", Bench.write("1{?a}y{/}3", "i"));
        CHECK.same("no otherwise, no item", "13", Bench.write("1{?a}y{/}3"));
        CHECK.same("empty branches", "", Bench.write("{?a}{:}{/}", "i"));
        CHECK.same("one in another", "y2", Bench.write("{?a}{?b}y1{:}y2{/}{:}{?b}n1{:}n2{/}{/}", "i"));
        CHECK.same("one in another's otherwise", "n1", Bench.write("{?a}{?b}y1{:}y2{/}{:}{?b}n1{:}n2{/}{/}", "", "i"));
        CHECK.same("six, first branches", "6", Bench.write(Bench.times("{?a}", 6) + "6" + Bench.times("{/}", 6), "i"));
        CHECK.same("six, otherwise", "6", Bench.write(Bench.times("{?a}{:}", 6) + "6" + Bench.times("{/}", 6)));
        HoleTemplates x = Bench.withTemplate("{?a}y{:}n{/}");
        Bench.give(x, 'a', "");
        Bench.give(x, 'a', "second");
        x.compile();
        x.write();
        CHECK.same("the first item counts", "n", Bench.writing(x));
    }

    private static void loops() {
        HoleTemplates x = Bench.withTemplate("{*a}({a}{?a}+{:}-{/}{*a}{a}{/}{b}){/}{a}{*b}{*a}{b}{a} {/}{/}");
        x.compile();
        CHECK.same("no items", 0, x.write());
        Bench.give(x, 'a', "1");
        Bench.give(x, 'a', "");
        Bench.give(x, 'a', "3");
        Bench.give(x, 'b', "p");
        Bench.give(x, 'b', "q");
        x.write();
        CHECK.same("the loops", "(1+1p)(-p)(3+3p)1p1 p p3 q1 q q3 ", Bench.writing(x));
        CHECK.same("an empty item is one", "[]", Bench.write("{*a}[{a}]{/}", ""));
    }

    private static void manyLoops() {
        HoleTemplates x = Bench.withTemplate("{*a}{*b}{*c}{*d}{*e}{*f}" + Bench.times("{g}", 50) + Bench.times("{/}", 6));
        for (int v = 0; v < 6; v++) {
            for (int n = 0; n < 4; n++) {
                x.item(v);
            }
        }
        x.compile();
        CHECK.same("nothing, 4096 times", 0, x.write());
        Bench.give(x, 'g', "g");
        CHECK.thrown("50 characters, 4096 times", IllegalStateException.class, x::write);
        x.forget(5);
        CHECK.same("one loop has nothing", 0, x.write());
    }

    /** What compiling has noted for an earlier template must not steer the writing of a later one. */
    private static void oneTemplateAfterAnother() {
        HoleTemplates x = Bench.withTemplate("{?a}xyz{:}u{/}<script>'{a}'</script>");
        x.compile();
        x.clear();
        Bench.addAll(x, "abcdefghijklmnopqrstu{a}");
        Bench.give(x, 'a', "<");
        x.compile();
        x.write();
        CHECK.same("the later one", "abcdefghijklmnopqrstu&lt;", Bench.writing(x));
        x.clear();
        Bench.addAll(x, "{*a}{?b}x{/}y{/}");
        x.compile();
        x.write();
        CHECK.same("and one more", "y", Bench.writing(x));
    }
}
