import java.lang.reflect.InvocationTargetException;
import java.lang.reflect.Method;
import java.lang.reflect.Modifier;
import java.util.Arrays;
import java.util.Comparator;
import java.util.Set;
import java.util.TreeSet;

/**
 * Runs a test for each sentence of the document that names a boundary case, and for those of its first part that stand
 * under no promise: each method that bears Says.
 */
public final class BoundaryTests extends Checks {
    private static final int PROMISES = 35;
    private static final Class<?>[] PARTS = {DataBoundaries.class, ResultBoundaries.class, RunBoundaries.class,
        StateBoundaries.class, FailureBoundaries.class, LineageBoundaries.class, KernelBoundaries.class,
        TickBoundaries.class, ViewBoundaries.class, SoundnessBoundaries.class, RefusalBoundaries.class,
        TermSentences.class};

    private static final Set<Integer> TESTED = new TreeSet<>();
    private static int tests;

    public static void main(String[] args) {
        for (Class<?> part : PARTS) {
            runTestsOf(part);
        }
        about("the tests");
        for (int promise = 1; promise <= PROMISES; promise++) {
            if (!TESTED.contains(promise)) {
                say("promise " + promise + " has no test of a boundary");
            }
        }
        end(tests + " sentences hold at their boundaries");
    }

    private static void runTestsOf(Class<?> part) {
        Method[] methods = part.getDeclaredMethods();
        Arrays.sort(methods, Comparator.comparing(Method::getName));
        for (Method m : methods) {
            Says says = m.getAnnotation(Says.class);
            if (says != null) {
                for (int promise : says.promise()) {
                    TESTED.add(promise);
                }
                about(part.getSimpleName() + "." + m.getName() + ", '" + says.value() + "'");
                runTest(m);
            } else if (!Modifier.isPrivate(m.getModifiers()) && !m.isSynthetic()) {
                about("the tests");
                say(part.getSimpleName() + "." + m.getName() + " is neither private nor the test of a sentence");
            }
        }
    }

    private static void runTest(Method m) {
        tests++;
        try {
            m.invoke(null);
        } catch (InvocationTargetException e) {
            say("threw " + e.getCause());
        } catch (IllegalAccessException e) {
            say("can't be run: " + e);
        }
    }
}
