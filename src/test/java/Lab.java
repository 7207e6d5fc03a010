import java.lang.reflect.InvocationTargetException;
import java.lang.reflect.Method;
import java.util.ArrayList;
import java.util.Arrays;
import java.util.HashMap;
import java.util.List;
import java.util.Map;

/** Calls a NotebookLab, or the model of it, by a method's name, and tells the answer as a text. */
final class Lab {
    private static final String[] OF_NOTHING =
        {"cellCount", "fresh", "tick", "work", "load", "meanValue", "isSound"};
    private static final String[] OF_CELL =
        {"state", "resultAnew", "runs", "found", "failure", "root", "rootFailure", "causes", "owners"};
    private static final String[] OF_VARIABLE = {"value", "writer", "dependents"};
    private static final String[] OF_VIEW = {"held", "isCurrent"};

    private static final Map<Class<?>, Map<String, Method>> METHODS = new HashMap<>();

    private Lab() {
    }

    /** The answer, or "throws " and the exact name of the exception. */
    static String answer(Object lab, String call, Object... arguments) {
        try {
            return String.valueOf(method(lab, call).invoke(lab, arguments));
        } catch (InvocationTargetException e) {
            Throwable thrown = e.getCause();
            // Of the exceptions that the document names the machine throws this one too: it tells itself by its text.
            String by = "/ by zero".equals(thrown.getMessage()) ? " by the machine" : "";
            return "throws " + thrown.getClass().getSimpleName() + by;
        } catch (IllegalAccessException e) {
            throw new AssertionError(e);
        }
    }

    private static Method method(Object lab, String call) {
        Map<String, Method> methods = METHODS.computeIfAbsent(lab.getClass(), Lab::methodsOf);
        if (!methods.containsKey(call)) {
            throw new AssertionError("no method " + call);
        }
        return methods.get(call);
    }

    private static Map<String, Method> methodsOf(Class<?> face) {
        Map<String, Method> methods = new HashMap<>();
        for (Method m : face.getDeclaredMethods()) {
            methods.put(m.getName(), m);
        }
        return methods;
    }

    /** What all calls answer that change nothing, wrong arguments included. */
    static List<String> snapshot(Object lab) {
        List<String> lines = new ArrayList<>();
        for (String call : OF_NOTHING) {
            add(lines, lab, call);
        }
        for (int cell = -1; cell <= 11; cell++) {
            for (String call : OF_CELL) {
                add(lines, lab, call, cell);
            }
            for (int variable = -1; variable <= 12; variable++) {
                add(lines, lab, "depends", cell, variable);
            }
        }
        for (int variable = -1; variable <= 12; variable++) {
            for (String call : OF_VARIABLE) {
                add(lines, lab, call, variable);
            }
        }
        for (int kernel = -1; kernel <= 3; kernel++) {
            add(lines, lab, "free", kernel);
        }
        for (int view = -1; view <= 20; view++) {
            for (String call : OF_VIEW) {
                add(lines, lab, call, view);
            }
        }
        return lines;
    }

    /**
     * Goes on with an object by calls that change it, and tells all answers: what is kept and can't be asked (periods,
     * kept results, needs and when they end) shows in them.
     */
    static List<String> goOn(Object lab) {
        List<String> lines = new ArrayList<>();
        for (int cell = 0; cell <= 10; cell++) {
            add(lines, lab, "publish", cell);
            add(lines, lab, "run", cell);
        }
        add(lines, lab, "pass", 2);
        for (int cell = 0; cell <= 10; cell++) {
            add(lines, lab, "schedule", cell, cell % 4);
            add(lines, lab, "setConstant", cell, cell);
        }
        build(lines, lab);
        for (int round = 0; round < 6; round++) {
            for (int variable = 0; variable <= 11; variable++) {
                add(lines, lab, "setData", variable, round);
            }
            add(lines, lab, "runAll");
            add(lines, lab, "load");
            add(lines, lab, "pass", round + 1);
            add(lines, lab, "loseData", round);
        }
        lines.addAll(snapshot(lab));
        return lines;
    }

    private static void build(List<String> lines, Object lab) {
        for (int kernel = 0; kernel < 3; kernel++) {
            add(lines, lab, "addKernel", 3 + kernel);
        }
        add(lines, lab, "addData", 10, 0, 5);
        add(lines, lab, "addData", 0, 2, 5);
        for (int variable = 0; variable <= 11; variable++) {
            add(lines, lab, "addCell", '+', 0, -1, 1, variable, 2, 3);
        }
    }

    private static void add(List<String> lines, Object lab, String call, Object... arguments) {
        lines.add(call + Arrays.toString(arguments) + " = " + answer(lab, call, arguments));
    }
}
