import java.util.concurrent.Callable;

/** Counts the checks of one test and tells the wrong ones. */
final class Checks {
    private static final int MOST_TOLD = 50;
    private static int checked = 0;
    private static int wrong = 0;
    private static String place = "";

    private Checks() {
    }

    /** What all checks from now on are told with. */
    static void begin(String newPlace) {
        place = newPlace;
    }

    static int count() {
        return checked;
    }

    interface Call {
        void run();
    }

    static void same(String what, Object due, Object got) {
        checked++;
        if (!due.equals(got)) {
            wrong++;
            if (wrong <= MOST_TOLD) {
                System.out.println(place + what + ": due is " + due + ", got " + got);
            }
        }
    }

    static void is(String what, long due, long got) {
        same(what, due, got);
    }

    static void isDouble(String what, double due, double got) {
        same(what, due, got);
    }

    static void thrown(String what, Class<? extends RuntimeException> due, Call call) {
        same(what, due.getSimpleName(), answer(() -> {
            call.run();
            return "nothing thrown";
        }));
    }

    /** What a call answers or throws, as a text; what the machine itself throws is told apart. */
    static String answer(Callable<?> call) {
        try {
            return String.valueOf(call.call());
        } catch (Exception e) {
            boolean isOfMachine = e instanceof ArithmeticException && "/ by zero".equals(e.getMessage());
            return (isOfMachine ? "machine's " : "") + e.getClass().getSimpleName();
        }
    }

    static void finish() {
        System.out.println(checked + " checks, " + wrong + " wrong");
        if (wrong != 0 || checked == 0) {
            System.exit(1);
        }
    }
}
