import java.util.Objects;

/** Counts checks, prints those that fail, and ends the program with 1 if there was one. */
final class Check {
    private final String name;
    private int passed;
    private int failed;

    Check(String name) {
        this.name = name;
    }

    void same(String what, Object due, Object got) {
        if (Objects.equals(due, got)) {
            passed++;
        } else {
            failed++;
            if (failed <= 50) {
                System.out.println(name + ": " + what + " answered " + got + ", due is " + due);
            }
        }
    }

    /** The call must throw just this exception, no other class and none below it. */
    void thrown(String what, Class<? extends RuntimeException> due, Runnable call) {
        Object got = "nothing thrown";
        try {
            call.run();
        } catch (RuntimeException e) {
            got = e.getClass();
        }
        same(what, due, got);
    }

    void end() {
        System.out.println(name + ": " + passed + " checks as due, " + failed + " not");
        if (failed != 0 || passed == 0) {
            System.exit(1);
        }
    }
}
