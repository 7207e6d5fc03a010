import java.io.IOException;
import java.lang.reflect.Method;
import java.lang.reflect.Modifier;
import java.nio.file.Files;
import java.nio.file.Path;
import java.util.Set;
import java.util.TreeSet;
import java.util.regex.Matcher;
import java.util.regex.Pattern;

/** Makes the calls that README.md shows, in its order: each one answers what stands behind it. */
public final class ReadmeTests extends Checks {
    private static final String NEW = "NotebookLab lab = new NotebookLab();";
    /** A call, and behind it the answer, which a colon parts from what is said about it. */
    private static final Pattern CALL = Pattern.compile("lab\\.(\\w+)\\((.*?)\\);\\s+// (.+?)(: .*)?");

    private static final Set<String> SHOWN = new TreeSet<>();

    public static void main(String[] args) throws IOException {
        if (args.length < 2) {
            System.out.println("WRONG: the second argument is the path of README.md");
            System.exit(1);
        }
        NotebookLab lab = null;
        boolean code = false;
        int number = 0;
        for (String line : Files.readAllLines(Path.of(args[1]))) {
            number++;
            about("README.md, line " + number);
            if (line.startsWith("```")) {
                code = line.equals("```java");
            } else if (code && line.equals(NEW)) {
                lab = new NotebookLab();
            } else if (code) {
                checkCall(lab, line);
            }
        }
        about("README.md");
        checkThatAllAreShown();
        end("README.md tells " + SHOWN.size() + " calls as they answer");
    }

    private static void checkCall(NotebookLab lab, String line) {
        Matcher m = CALL.matcher(line);
        if (lab == null || !m.matches()) {
            say("no call with its answer: " + line);
            return;
        }
        String[] texts = m.group(2).isEmpty() ? new String[0] : m.group(2).split(", ");
        Object[] arguments = new Object[texts.length];
        for (int i = 0; i < texts.length; i++) {
            arguments[i] = texts[i].startsWith("'") ? texts[i].charAt(1) : (Object) Integer.valueOf(texts[i]);
        }
        SHOWN.add(m.group(1));
        dueAnswer(m.group(3).replace("'", ""), lab, m.group(1), arguments);
    }

    private static void checkThatAllAreShown() {
        for (Method m : NotebookLab.class.getDeclaredMethods()) {
            if (Modifier.isPublic(m.getModifiers()) && !SHOWN.contains(m.getName())) {
                say("no call of " + m.getName());
            }
        }
    }
}
