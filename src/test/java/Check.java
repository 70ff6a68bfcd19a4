import java.util.NoSuchElementException;
import java.util.function.Supplier;

/** Counts and prints the answers that are not as due; end() tells it to the one who started the test. */
final class Check {
    private static int wrong = 0;
    private static int asked = 0;

    private Check() {
    }

    /** due is compared with the answer; for an exception that is due, its class stands for it. */
    static void due(String what, Object due, Supplier<Object> call) {
        asked++;
        Object got = answerOf(call);
        if (!got.equals(due)) {
            wrong++;
            System.out.println(what + ": answered " + got + ", due is " + due);
        }
    }

    static void noSuch(String what, Supplier<Object> call) {
        due(what, NoSuchElementException.class, call);
    }

    static void illegal(String what, Supplier<Object> call) {
        due(what, IllegalArgumentException.class, call);
    }

    static Object answerOf(Supplier<Object> call) {
        try {
            return call.get();
        } catch (RuntimeException e) {
            return e.getClass();
        }
    }

    static void end() {
        System.out.println(asked + " answers asked, " + wrong + " not as due");
        if (wrong != 0) {
            System.exit(1);
        }
    }
}
