import java.util.ArrayList;
import java.util.List;
import java.util.Map;
import java.util.function.Consumer;
import java.util.function.Function;

/** "A call that throws changes nothing, if nothing else is said", for each exception that a promise names. */
public final class ThrowsTest {
    private static final Check CHECK = new Check("ThrowsTest");
    private static final int[] NO_VARIABLES = {-1, 8, Integer.MIN_VALUE, Integer.MAX_VALUE};

    public static void main(String[] args) {
        add();
        compile();
        items();
        forget();
        writeNotCompiled();
        writeTooLong();
        CHECK.end();
    }

    /** The call throws, and behind it all is as before but what is named. */
    private static void leaves(String what, Consumer<Run> before, Function<Run, Object> call, Object due, String... but) {
        Run run = new Run();
        before.accept(run);
        CHECK.same(what, due, call.apply(run));
        CHECK.same(what + ", again", due, call.apply(run));
        Map<String, String> left = State.behind(before);
        Map<String, String> got = State.behind(before.andThen(call::apply));
        List<String> names = new ArrayList<>(left.keySet());
        names.removeAll(List.of(but));
        for (String name : names) {
            CHECK.same(name + " behind " + what, left.get(name), got.get(name));
        }
        Map<String, String> twice = State.behind(before.andThen(call::apply).andThen(call::apply));
        CHECK.same("all behind " + what + ", twice", got, twice);
    }

    /** A fault of the past, a writing, items in a, b and h, and the row: there is something to be lost of each. */
    private static void busy(Run run) {
        run.compiled("ab<");
        run.clear();
        run.compiled("w{a}").given(0, "i", "j").given(1, "").given(7, "1", "2", "3", "4").write();
    }

    private static void add() {
        leaves("add to 240", run -> {
            busy(run);
            run.clear();
            run.compiled("{a}{h}" + "x".repeat(234)).typed("r");
        }, Run::add, Run.STATE);
        leaves("add 40 to 201, not compiled, a fault noted", run -> {
            busy(run);
            run.clear();
            run.compiled("<");
            run.clear();
            run.added("{a}" + "x".repeat(198)).typed("r".repeat(39) + "s");
        }, Run::add, Run.STATE);
        leaves("add 2 to 239, compiled", run -> {
            busy(run);
            run.clear();
            run.compiled("x".repeat(236) + "{a}").typed("{a");
        }, Run::add, Run.STATE);
    }

    private static void compile() {
        String[] refused = {"{a}<", "<", "{?a}{b}", "{a}{b}<p x='{c}", "{*h}{h}<p {/}", "&", "{"};
        for (String template : refused) {
            Consumer<Run> before = run -> {
                busy(run);
                run.clear();
                run.added(template).typed("row");
            };
            leaves("compile " + template, before, Run::compile, Run.ARGUMENT, "fault");
            leaves("compile " + template + " anew", before.andThen(Run::compile), Run::compile, Run.ARGUMENT);
            leaves("accepts " + template, before, Run::accepts, false, "fault");
            CHECK.same("accepts leaves what compile leaves: " + template, State.behind(before.andThen(Run::compile)),
                State.behind(before.andThen(Run::accepts)));
        }
    }

    private static void items() {
        for (int v : NO_VARIABLES) {
            leaves("item " + v, run -> {
                busy(run);
                run.typed("row");
            }, run -> run.item(v), Run.INDEX);
            leaves("item " + v + " with an empty row", ThrowsTest::busy, run -> run.item(v), Run.INDEX);
        }
        leaves("a fifth item", run -> {
            busy(run);
            run.typed("row");
        }, run -> run.item(7), Run.STATE);
        leaves("a fifth item of 40 characters", run -> {
            busy(run);
            run.typed("r".repeat(40));
        }, run -> run.item(7), Run.STATE);
        leaves("an empty fifth item", ThrowsTest::busy, run -> run.item(7), Run.STATE);
    }

    private static void forget() {
        for (int v : NO_VARIABLES) {
            leaves("forget " + v, run -> {
                busy(run);
                run.typed("row");
            }, run -> run.forget(v), Run.INDEX);
        }
    }

    private static void writeNotCompiled() {
        leaves("write, new", run -> { }, Run::write, Run.UNSUPPORTED);
        leaves("write behind add", run -> {
            busy(run);
            run.added("{h}").typed("row");
        }, Run::write, Run.UNSUPPORTED);
        leaves("write behind add of an empty row", run -> {
            busy(run);
            run.add();
        }, Run::write, Run.UNSUPPORTED);
        leaves("write behind clear", run -> {
            busy(run);
            run.typed("row").clear();
        }, Run::write, Run.UNSUPPORTED);
        leaves("write behind a refusal", run -> {
            busy(run);
            run.compiled("{h}<").typed("row");
        }, Run::write, Run.UNSUPPORTED);
    }

    private static void writeTooLong() {
        String[] tooLong = {"{c}{d}" + "{c}".repeat(25), "{*h}{*a}{h}{a}{c}{c}{c}{c}{/}{/}", "{*h}{*h}{c}{c}{c}{c}{c}{c}{c}{/}{/}",
            "{a}{?c}{*h}{?h}{*d}" + "{c}".repeat(26) + "{/}{/}{/}{/}"};
        for (String template : tooLong) {
            Consumer<Run> before = run -> {
                busy(run);
                run.clear();
                run.compiled(template).given(2, "c".repeat(40)).given(3, "d").typed("row");
            };
            leaves("write too much: " + template, before, Run::write, Run.STATE, "writing");
            Run run = new Run();
            before.accept(run);
            CHECK.same("the writing before: " + template, "wi", run.text());
            run.write();
            CHECK.same("written behind too much: " + template, 0, run.written());
            CHECK.same("letter(0) behind too much: " + template, 0, run.letter(0));
            CHECK.same("letter(1) behind too much: " + template, 0, run.letter(1));
        }
    }
}
