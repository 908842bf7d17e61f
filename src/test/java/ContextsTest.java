/** The contexts of "Terms": in each, templates that are read, with their holes, and ones that are refused, with their fault. */
public final class ContextsTest {
    private static final Check CHECK = new Check("ContextsTest");

    public static void main(String[] args) {
        text();
        tag();
        attributes();
        plainValues();
        urlValues();
        scriptValues();
        styleValues();
        script();
        scriptStrings();
        scriptComments();
        style();
        title();
        comment();
        holesElsewhere();
        CHECK.end();
    }

    /** Due is that the template is read, and that its holes are these. */
    private static void read(String template, String holes) {
        HoleTemplates x = Bench.withTemplate(template);
        boolean accepted = x.accepts();
        CHECK.same("read " + template + ": fault", HoleTemplates.NONE, x.fault());
        CHECK.same("read " + template, holes, accepted ? Bench.holes(x) : "refused");
    }

    private static void refused(String template, int fault) {
        HoleTemplates x = Bench.withTemplate(template);
        CHECK.same("refused " + template, false, x.accepts());
        CHECK.same("refused " + template + ": fault", fault, x.fault());
    }

    private static void text() {
        read("a>b\"c'd`e/f\\g%h\n{{}]]>", "");
        read("</p></script>x{a}", "0");
        read("<p>{a}<br/>{b}<hr />{c}<i\n>", "0 0 0");
        read("&amp;{a}& &#38;&&;&\n& <p>", "0");
        read("&AZaz09#x# {a}", "0");
        read("&<p>", "");
        read("{?a}x{:}<p>{/}", "");
        refused("<", 0);
        refused("a<1>", 1);
        refused("< p>", 0);
        refused("<P>", 0);
        refused("<h1>", 0);
        refused("<p", 0);
        refused("<p{a}>", 0);
        refused("<{a}>", 0);
        refused("<p{?a} x{/}>", 0);
        refused("</>", 0);
        refused("</p >", 0);
        refused("</P>", 0);
        refused("</p><", 4);
        read("<azbyz></azbyz>", "");
        refused("</p`>", 0);
        refused("<p`>", 0);
        refused("<p{{>", 0);
        read("<xcript>`</xcript><xtyle>{a}</xtyle><xitle><b></xitle>", "0");
        read("<scripx>{a}<stylx>{b}<titlx>{c}", "0 0 0");
        refused("</p", 0);
        refused("</{a}>", 0);
        refused("<!doctype html>", 0);
        refused("<!-", 0);
        refused("<!-{?a}-{/}", 0);
        refused("x&", 1);
        refused("x&amp", 1);
        refused("x&amp{a};", 1);
        refused("x&{?a};{/}", 1);
        refused("&#x{a}", 0);
        read("&amp{{", "");
    }

    private static void tag() {
        read("<p\n \n>{a}</p>", "0");
        read("<a {?a}x {:}y='1'{/}>", "");
        read("<a {*a} {/}/>", "");
        read("<titles>{a}<x/>", "0");
        read("<scripts></scripts><styl></styl>", "");
        refused("<p =>", 3);
        refused("<p \"x\">", 3);
        refused("<p /x>", 3);
        refused("<p / >", 3);
        refused("<p /", 3);
        refused("<p /{?a}>{/}", 3);
        refused("<p <", 3);
        refused("<p 1>", 3);
        refused("<p -x>", 3);
        refused("<p ", 3);
        refused("<p &", 3);
        refused("<p {{", 3);
        refused("<script/>", 7);
        refused("<style />", 7);
        refused("<title x/>", 8);
        refused("<script x=''/>", 12);
    }

    private static void attributes() {
        read("<p a b-c d- e/>", "");
        read("<p a='1'b=\"2\"c>", "");
        read("<p a = '1' b\n=\n\"2\" c= '3'>", "");
        read("<p a {?a}{/}>", "");
        read("<p {?a}a {:}b=''{/}c>", "");
        refused("<p a{?a}{/}>", 3);
        refused("<p a", 3);
        read("<p a >", "");
        refused("<p a ", 5);
        refused("<p a {?a}=''{/}>", 9);
        refused("<p aB>", 3);
        refused("<p a1='x'>", 3);
        refused("<p a\"x\">", 3);
        refused("<p a=x>", 3);
        refused("<p a =x>", 3);
        refused("<p a=>", 3);
        refused("<p a=", 3);
        refused("<p a= {?a}''{/}>", 3);
        refused("<p a={a}>", 3);
        refused("<p a='1' b=2>", 9);
        refused("<p a/b>", 4);
        read("<p xref='{a}' xrc='{b}' xction='{c}' xtyle='{d}' xn='{e}' ox='{f}'>", "1 1 1 1 1 1");
        read("<p hrefs='{a}' xsrc='{b}' action-x='{c}' styles='{d}' o='{e}'>", "1 1 1 1 1");
        read("<p href='{a}' src='{b}' action='{c}' style='{d}' on='{e}' one='{f}' on-x='{g}'>", "2 2 2 28 24 24 24");
    }

    private static void plainValues() {
        read("<p x='<a>\"/\\`%\n{a}-->{b}'>", "1 1");
        read("<p x=\"it's {a} & &amp; &amp\">", "1");
        read("<title x='{a}' y=\"{b}\">{c}</title>", "1 1 0");
        read("<p x='{?a}1{:}2{/}'>", "");
        refused("<p x='", 6);
        refused("<p x='\">", 8);
        refused("<p x='&", 6);
        refused("<p x='&amp{a}'>", 6);
        refused("<p x='a&{a}'>", 7);
    }

    private static void urlValues() {
        read("<a href='{a}'>", "2");
        read("<a href='{a}{b}'>", "2 3");
        read("<a href='x{a}?{b}/{c}'>", "3 4 4");
        read("<a href='?{a}'>", "4");
        read("<a href='#{a}'>", "4");
        read("<a href=' {a}'>", "3");
        read("<a href='& {a}'>", "3");
        read("<a href='%20{a}'>", "3");
        read("<a href='?&amp;%41x{a}'>", "4");
        read("<a href='&#38;{a}'>", "4");
        read("<a href='%a'>", "");
        read("<a href='%'>", "");
        read("<a href=\"'<>`\n{a}\">", "3");
        read("<a href='?x{a}'><a href='{b}'>", "4 2");
        refused("<a href='%{a}'>", 9);
        refused("<a href='%2{a}'>", 9);
        refused("<a href='%2{?a}0{/}'>", 9);
        refused("<a href='x&{a}'>", 10);
        refused("<a href='x?a&b{a}'>", 12);
        refused("<a href='x", 10);
        read("<a href='{?a}/{:}x{/}'>", "");
        read("<a href='%{{{{{a}'>", "3");
    }

    private static void scriptValues() {
        read("<p onclick=\"f({a},'{b}')\">", "24 25");
        read("<p onclick='f({a},\"{b}\")'>", "24 26");
        read("<p onclick='a<b</*</!*/'>", "");
        read("<p onclick=\"//x<!\n{a}\">", "24");
        read("<p onclick='\"\\\"\\x\\\n\"'>", "");
        read("<p onclick='if(a<{a}){{}'>", "24");
        refused("<p onclick='a&b'>", 13);
        refused("<p onclick='\"&\"'>", 13);
        refused("<p onclick='//&'>", 14);
        refused("<p onclick='/*&*/'>", 14);
        refused("<p onclick=\"'\">", 13);
        refused("<p onclick='//'>", 14);
        refused("<p onclick='/*'>", 14);
        refused("<p onclick='/* *'/'>", 16);
        refused("<p onclick='\"\\''>", 13);
        refused("<p onclick='\"\\<\"'>", 13);
        refused("<p onclick='\"\\&\"'>", 13);
        refused("<p onclick='a/b'>", 13);
        refused("<p onclick='`'>", 12);
        refused("<p onclick='</script>'>", 13);
        refused("<p onclick='\"\n\"'>", 13);
        refused("<p onclick='//{a}\n'>", 14);
        refused("<p onclick='/*{a}*/'>", 14);
    }

    private static void styleValues() {
        read("<p style=\"w:{a};c:'{b}'\">", "28 29");
        read("<p style='w:{a};c:\"{b}\"'>", "28 30");
        read("<p style='a/b`</style>//c{a}'>", "28");
        read("<p style='a/'>", "");
        read("<p style='/*x*/{a}'>", "28");
        refused("<p style='a&b'>", 11);
        refused("<p style='a/{a}'>", 11);
        refused("<p style='\"'>", 11);
        refused("<p style='\"\\''>", 11);
        refused("<p style='/*'>", 12);
        refused("<p style='/*{a}*/'>", 12);
        refused("<p style='\"\n\"'>", 11);
    }

    private static void script() {
        read("<script>x={a}+[1]%\\&{{}\n</script>{b}", "8 0");
        read("<script>a<b;a<<c;<'x'</script>", "");
        read("<script src='{a}'>{b}</script>", "2 8");
        read("<script></script>", "");
        refused("<script>", 8);
        refused("<script>a/b</script>", 9);
        refused("<script>/{?a}/{/}", 8);
        refused("<script>`</script>", 8);
        refused("<script></scrip>", 8);
        refused("<script></script >", 8);
        refused("<script></style>", 8);
        refused("<script></SCRIPT>", 8);
        refused("<script></scr{?a}ipt>{/}", 8);
        refused("<script><!--", 8);
        refused("<script>a<{a}</script>", 9);
        refused("<script>a<", 9);
        refused("<script>x</script", 9);
    }

    private static void scriptStrings() {
        read("<script>'{a}\"/`//{b}&'{c}</script>", "9 9 8");
        read("<script>\"{a}'/*{b}\"{c}</script>", "10 10 8");
        read("<script>'\\'\\\\'{a}'\\\n\\\"\\{{'</script>", "8");
        read("<script>'<b>'\"<\"</script>", "");
        refused("<script>'a\nb'</script>", 10);
        refused("<script>'</script>'", 9);
        refused("<script>\"<!\"</script>", 9);
        refused("<script>'<{a}'</script>", 9);
        refused("<script>'\\<'</script>", 9);
        refused("<script>'\\&'</script>", 9);
        refused("<script>'\\{a}'</script>", 9);
        refused("<script>'x", 10);
    }

    private static void scriptComments() {
        read("<script>//'\"`/*x*/<b&\n{a}</script>", "8");
        read("<script>/*'\"`//x\n* **<b&*/{a}</script>", "8");
        read("<script>/*/*/{a}</script>", "8");
        read("<script>//{?a}x{:}y{/}\n/*{*a}z{/}*/</script>", "");
        refused("<script>//{a}\n</script>", 10);
        refused("<script>//</script>", 10);
        refused("<script>//<{?a}x{/}", 10);
        refused("<script>/*{a}*/</script>", 10);
        refused("<script>/*</script>*/", 10);
        refused("<script>/*<!*/</script>", 10);
        refused("<script>/**{?a}/{/}", 10);
        refused("<script>/* *", 11);
        refused("<script>// x", 12);
    }

    private static void style() {
        read("<style>b{{w:{a};c:'{b}'\"{c}\"}`</style>{d}", "12 13 14 0");
        read("<style>a/b//c{a}</style>", "12");
        read("<style>/*//'{{*/a>b<c</style>", "");
        read("<style>'\\'<b'</style>", "");
        read("<style>url(http://x/){a}</style>", "12");
        read("<style>/</style>", "");
        refused("<style>a/{a}</style>", 8);
        refused("<style>//{a}</style>", 8);
        refused("<style>/*{a}*/</style>", 9);
        refused("<style>'\n'</style>", 8);
        refused("<style>'\\&'</style>", 8);
        refused("<style></script>", 7);
        refused("<style>'</style>", 8);
        refused("<style><!--", 7);
        refused("<style>/*</style>", 9);
        refused("<style>x", 8);
    }

    private static void title() {
        read("<title>{a}>'\"/&amp;\n</title>{b}", "0 0");
        read("<title>{?a}x{:}y{/}</title>", "");
        refused("<title><b></title>", 7);
        refused("<title></titles>", 7);
        refused("<title></tit{?a}le>{/}", 7);
        refused("<title>&amp{a}</title>", 7);
        refused("<title>&</titl", 8);
        refused("<title>x", 8);
    }

    private static void comment() {
        read("<!---->{a}", "0");
        read("<!--->-->", "");
        read("<!-- <p> & -- - ' --->x", "");
        read("<!--{?a}-x {:}{/}-->", "");
        refused("<!--{a}-->", 4);
        refused("<!-- -{?a}-{/}>", 5);
        refused("<!-- --{?a}>{/}", 5);
        refused("<!---", 4);
        refused("<!-- --", 5);
        refused("<!-- -x", 5);
        refused("<!-- x", 6);
    }

    private static void holesElsewhere() {
        refused("<p {a}>", 3);
        refused("<p x={a}>", 3);
        refused("<p x=''{a}>", 7);
        refused("<p x {a}>", 5);
        refused("<!-- {a} -->", 5);
    }
}
