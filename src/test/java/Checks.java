import java.util.NoSuchElementException;
import java.util.function.BooleanSupplier;
import java.util.function.IntSupplier;

/** What the tests share: answers that are due, calls that are refused, and the end of a test. */
final class Checks {
    private static int wrong = 0;
    private static int asked = 0;
    private static String sentence = "";

    private Checks() {
    }

    static void due(int want, IntSupplier call) {
        compare(String.valueOf(want), told(call));
    }

    static void due(boolean want, BooleanSupplier call) {
        compare(want ? "1" : "0", told(() -> call.getAsBoolean() ? 1 : 0));
    }

    /** A call that this rule refuses: its exception, and what rule() tells then. */
    static void refused(int rule, MuseumHouse house, Runnable call) {
        compare(exceptionOf(rule), told(() -> {
            call.run();
            return 0;
        }));
        compare("rule " + rule, "rule " + house.rule());
    }

    static void equal(String want, String got) {
        compare(want, got);
    }

    /** An answer as a text, or the name of what was thrown, whatever it was. */
    static String told(IntSupplier call) {
        try {
            return String.valueOf(call.getAsInt());
        } catch (Throwable thrown) {
            return thrown.getClass().getName();
        }
    }

    static String exceptionOf(int rule) {
        if (rule == 1) {
            return NoSuchElementException.class.getName();
        }
        return (rule <= 3 ? IllegalStateException.class : IllegalArgumentException.class).getName();
    }

    /** A test of one sentence of the document, which is named if the test fails. */
    static void about(String section, String quote, Runnable test) {
        Document.name(section, quote);
        sentence = " [" + section + ": " + quote + "]";
        test.run();
        sentence = "";
    }

    static void end() {
        System.out.println(asked + " answers, " + wrong + " wrong");
        if (wrong != 0) {
            System.exit(1);
        }
    }

    private static void compare(String want, String got) {
        asked++;
        if (!want.equals(got)) {
            wrong++;
            System.out.println(callerLine() + ": answered " + got + ", due is " + want
                + sentence);
        }
    }

    private static String callerLine() {
        for (StackTraceElement frame : new Throwable().getStackTrace()) {
            if (!frame.getClassName().matches("(Checks|Told|Document)(\\$.*)?")) {
                return frame.toString();
            }
        }
        return "?";
    }
}
