import java.util.LinkedHashMap;
import java.util.Map;
import java.util.function.Consumer;

/**
 * All that can be seen of an object behind some calls. To look at one thing changes others, so each is looked at on an
 * object of its own on which the calls have been made anew.
 */
final class State {
    private State() {
    }

    static Map<String, String> behind(Consumer<Run> calls) {
        Map<String, String> seen = new LinkedHashMap<>();
        seen.put("fault", "" + fresh(calls).fault());
        seen.put("holes", holes(fresh(calls)));
        seen.put("writing", writing(fresh(calls)));
        seen.put("what write gives", written(fresh(calls)));
        seen.put("template", template(fresh(calls)));
        seen.put("template's length", "" + fresh(calls).clear());
        seen.put("row", row(fresh(calls)));
        seen.put("row's length", "" + fresh(calls).wipe());
        for (int v = 0; v < 8; v++) {
            seen.put("items of " + v, items(fresh(calls), v));
            seen.put("count of " + v, "" + fresh(calls).forget(v));
        }
        return seen;
    }

    private static Run fresh(Consumer<Run> calls) {
        Run run = new Run();
        calls.accept(run);
        return run;
    }

    private static String holes(Run run) {
        StringBuilder b = new StringBuilder();
        for (int k = -1; k < 10; k++) {
            b.append(run.hole(k)).append(' ');
        }
        return b.toString();
    }

    private static String writing(Run run) {
        return run.written() + ": " + run.text(0, 60) + ".." + run.text(980, 1000) + run.letter(1000);
    }

    private static String written(Run run) {
        return run.write() + ", " + writing(run);
    }

    private static String template(Run run) {
        return run.accepts() + ", " + run.fault() + ", " + holes(run) + ", " + written(run);
    }

    /** The row alone as a template, with a mark at its end that shows its last character. */
    private static String row(Run run) {
        run.clear();
        run.add();
        run.added("|");
        return template(run);
    }

    private static String items(Run run, int v) {
        char name = (char) ('a' + v);
        run.clear();
        run.wipe();
        run.added("{*" + name + "}[{" + name + "}]{/}|{" + name + "}");
        run.compile();
        return written(run);
    }
}
