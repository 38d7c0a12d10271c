import java.util.NoSuchElementException;

/** Counts answers that are not due; a test ends with {@link #end}. */
final class Check {
    static final Class<?> INDEX = IndexOutOfBoundsException.class;
    static final Class<?> ARGUMENT = IllegalArgumentException.class;
    static final Class<?> STATE = IllegalStateException.class;
    static final Class<?> UNSUPPORTED = UnsupportedOperationException.class;
    static final Class<?> NO_ELEMENT = NoSuchElementException.class;
    static final Class<?> ARITHMETIC = ArithmeticException.class;

    private static int checks = 0;
    private static int wrong = 0;

    private Check() {
    }

    interface Call {
        long answer();
    }

    static void same(String what, long got, long due) {
        checks++;
        if (got != due) {
            report(what + " answered " + got + ", due is " + due);
        }
    }

    static void sameText(String what, String got, String due) {
        checks++;
        if (!got.equals(due)) {
            report(what + firstOther(got, due));
        }
    }

    private static String firstOther(String got, String due) {
        String[] gotLines = got.split("\n");
        String[] dueLines = due.split("\n");
        int line = 0;
        while (line < gotLines.length && line < dueLines.length && gotLines[line].equals(dueLines[line])) {
            line++;
        }
        return " " + lineOf(gotLines, line) + ", due is " + lineOf(dueLines, line);
    }

    private static String lineOf(String[] lines, int line) {
        return line < lines.length ? lines[line] : "nothing more";
    }

    static void holds(String what, boolean got) {
        same(what, got ? 1 : 0, 1);
    }

    static void fails(String what, Class<?> due, Call call) {
        checks++;
        String got;
        try {
            got = "answered " + call.answer();
        } catch (RuntimeException e) {
            if (e.getClass() == due && isThrownByCode(e)) {
                return;
            }
            got = "threw " + e;
        }
        report(what + " " + got + ", due is " + due.getSimpleName());
    }

    /** The Java machine throws with a message of its own, or from inside the library. */
    static boolean isThrownByCode(RuntimeException e) {
        StackTraceElement[] trace = e.getStackTrace();
        boolean fromHere = trace.length > 0 && trace[0].getClassName().startsWith("PlateRegister");
        return fromHere && !"/ by zero".equals(e.getMessage());
    }

    static void report(String text) {
        wrong++;
        if (wrong <= 40) {
            System.out.println(text);
        }
    }

    static void end() {
        System.out.println(checks + " checks, " + wrong + " wrong");
        if (wrong != 0 || checks == 0) {
            System.exit(1);
        }
    }

    /** A register with some keepers. */
    static PlateRegister withKeepers(int keepers) {
        PlateRegister made = new PlateRegister();
        for (int i = 0; i < keepers; i++) {
            made.addKeeper();
        }
        return made;
    }

    /** Lets more days pass than one call may. */
    static void passTo(PlateRegister register, int day) {
        while (register.day() < day) {
            register.pass(Math.min(99, day - register.day()));
        }
    }
}
