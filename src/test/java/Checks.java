import java.util.Arrays;
import java.util.List;
import java.util.function.Supplier;

/** What the tests of single promises share: an answer that is due, and a call that is refused. */
abstract class Checks {
    static final String ARGUMENT = "IllegalArgumentException";
    static final String STATE = "IllegalStateException";
    static final String ELEMENT = "NoSuchElementException";
    static final String INDEX = "IndexOutOfBoundsException";
    static final String UNSUPPORTED = "UnsupportedOperationException";
    static final String ARITHMETIC = "ArithmeticException";
    static final int[] FAR = {Integer.MIN_VALUE, Integer.MAX_VALUE};

    /** Stands in the arguments of a call where refusedOutside puts the numbers that are out of range. */
    static final Object HERE = new Object();

    private static final List<String> OF_THIS_CLASS =
        List.of("say", "due", "refused", "refusedOutside", "refusedWith", "dueFree", "dueAnswer", "result");

    private static int wrong;
    private static String subject = "";

    /** What the answers that follow are about, for the line that tells a wrong one. */
    static void about(String what) {
        subject = what;
    }

    /** Says how it went, and ends the machine with 1 if an answer was wrong. */
    static void end(String ifAllIsRight) {
        System.out.println(wrong == 0 ? ifAllIsRight : wrong + " answers are not as due");
        if (wrong != 0) {
            System.exit(1);
        }
    }

    static void due(Object want, Object got) {
        if (!want.equals(got)) {
            say("answered " + got + ", due is " + want);
        }
    }

    static void dueFree(NotebookLab lab, int... free) {
        for (int kernel = 0; kernel < free.length; kernel++) {
            due(free[kernel], lab.free(kernel));
        }
    }

    /** The call throws, and nothing that can be asked has changed. */
    static void refused(NotebookLab lab, String exception, String call, Object... arguments) {
        List<String> before = Lab.snapshot(lab);
        dueAnswer("throws " + exception, lab, call, arguments);
        if (!before.equals(Lab.snapshot(lab))) {
            say(call + Arrays.toString(arguments) + " throws and changes something");
        }
    }

    /**
     * The call throws, and an object that was made alike, on which the call was not made, answers alike: at once and in
     * all that is done with it later. So what can't be asked (periods, kept results) has not changed either.
     */
    static void refused(Supplier<NotebookLab> made, String exception, String call, Object... arguments) {
        NotebookLab lab = made.get();
        NotebookLab twin = made.get();
        refused(lab, exception, call, arguments);
        if (!Lab.goOn(lab).equals(Lab.goOn(twin))) {
            say(call + Arrays.toString(arguments) + " throws and changes what is answered later");
        }
    }

    /** The call throws with each of the numbers in the place of HERE. */
    static void refusedWith(int[] numbers, Supplier<NotebookLab> made, String exception, String call,
            Object... arguments) {
        int place = Arrays.asList(arguments).indexOf(HERE);
        for (int number : numbers) {
            Object[] with = arguments.clone();
            with[place] = number;
            refused(made, exception, call, with);
        }
    }

    /** The call throws with the number below the range and the one above it, and with those that are far away. */
    static void refusedOutside(int least, int greatest, Supplier<NotebookLab> made, String exception, String call,
            Object... arguments) {
        refusedWith(with(FAR, least - 1, greatest + 1), made, exception, call, arguments);
    }

    static void dueAnswer(String want, NotebookLab lab, String call, Object... arguments) {
        String told = Lab.answer(lab, call, arguments);
        if (!told.equals(want)) {
            say(call + Arrays.toString(arguments) + " answered " + told + ", due is " + want);
        }
    }

    static int[] with(int[] far, int... near) {
        int[] all = Arrays.copyOf(near, near.length + far.length);
        System.arraycopy(far, 0, all, near.length, far.length);
        return all;
    }

    static void say(String what) {
        wrong++;
        StackTraceElement[] trace = new Throwable().getStackTrace();
        int line = 0;
        for (StackTraceElement e : trace) {
            if (!OF_THIS_CLASS.contains(e.getMethodName())) {
                line = e.getLineNumber();
                break;
            }
        }
        System.out.println("WRONG, " + subject + ", line " + line + ": " + what);
    }
}
