import java.util.concurrent.Callable;

/** Counts and prints the answers that are not the ones that are due. */
final class Due {
    private static int wrong = 0;
    private static int asked = 0;

    private Due() {
    }

    /** What a call answers, or the exact class of what it throws. */
    static String answer(Callable<?> call) {
        try {
            return String.valueOf(call.call());
        } catch (Throwable thrown) {
            return thrown.getClass().getSimpleName();
        }
    }

    static void is(String what, Object due, Callable<?> call) {
        same(what, String.valueOf(due), answer(call));
    }

    static void index(String what, Callable<?> call) {
        same(what, "IndexOutOfBoundsException", answer(call));
    }

    static void argument(String what, Callable<?> call) {
        same(what, "IllegalArgumentException", answer(call));
    }

    static void state(String what, Callable<?> call) {
        same(what, "IllegalStateException", answer(call));
    }

    static void element(String what, Callable<?> call) {
        same(what, "NoSuchElementException", answer(call));
    }

    static boolean same(String what, String due, String got) {
        asked++;
        if (due.equals(got)) {
            return true;
        }
        wrong++;
        if (wrong <= 50) {
            System.out.println(what + " answered " + got + ", due is " + due);
        }
        return false;
    }

    static void end(String name) {
        System.out.println(name + ": " + asked + " answers asked, " + wrong + " not as due");
        if (wrong != 0 || asked == 0) {
            System.exit(1);
        }
    }
}
