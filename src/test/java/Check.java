import java.util.Objects;

/** Counts what is as due and what is not, and tells the latter. */
final class Check {
    interface Call {
        Object answer();
    }

    private final String suite;
    private int passed;
    private int failed;

    Check(String suite) {
        this.suite = suite;
    }

    void due(String what, Object want, Call call) {
        same(what, String.valueOf(want), answerOf(call));
    }

    void fails(String what, Class<? extends RuntimeException> want, Call call) {
        same(what, "throws " + want.getName(), answerOf(call));
    }

    void same(String what, Object want, Object got) {
        if (Objects.equals(want, got)) {
            passed++;
        } else {
            failed++;
            System.out.println(what + ": got " + got + ", due is " + want);
        }
    }

    /** The answer as a text; an exception tells its exact class, so a machine's own one never matches. */
    static String answerOf(Call call) {
        try {
            return String.valueOf(call.answer());
        } catch (RuntimeException e) {
            return "throws " + e.getClass().getName();
        }
    }

    void close() {
        System.out.println(suite + ": " + passed + " passed, " + failed + " failed");
        if (failed > 0 || passed == 0) {
            System.exit(1);
        }
    }
}
