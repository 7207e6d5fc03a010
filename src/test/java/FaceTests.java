import java.io.IOException;
import java.lang.reflect.Constructor;
import java.lang.reflect.Field;
import java.lang.reflect.Method;
import java.lang.reflect.Modifier;
import java.nio.file.Files;
import java.nio.file.Path;
import java.util.Set;
import java.util.TreeSet;
import java.util.regex.Matcher;
import java.util.regex.Pattern;

/** The class has the document's face and nothing beside it, and keeps to what of LANGUAGE.md a plain look can tell. */
public final class FaceTests {
    private static final String[] FACE = {
        "int addData(int,int,int) IllegalArgumentException IllegalStateException",
        "int setData(int,int) IllegalArgumentException NoSuchElementException",
        "int loseData(int) IllegalArgumentException NoSuchElementException IllegalStateException",
        "int addCell(char,int,int,int,int,int,int) IllegalArgumentException UnsupportedOperationException",
        "int setConstant(int,int) IndexOutOfBoundsException IllegalArgumentException",
        "int cellCount()",
        "int value(int) IllegalArgumentException NoSuchElementException",
        "int writer(int) IllegalArgumentException NoSuchElementException",
        "char run(int) IndexOutOfBoundsException",
        "int runAll()",
        "char state(int) IndexOutOfBoundsException",
        "int resultAnew(int) IndexOutOfBoundsException UnsupportedOperationException",
        "int fresh()",
        "int runs(int) IndexOutOfBoundsException",
        "int found(int) IndexOutOfBoundsException",
        "char failure(int) IndexOutOfBoundsException IllegalStateException",
        "int root(int) IndexOutOfBoundsException IllegalStateException",
        "char rootFailure(int) IndexOutOfBoundsException IllegalStateException",
        "int causes(int) IndexOutOfBoundsException IllegalStateException",
        "boolean depends(int,int) IndexOutOfBoundsException IllegalArgumentException",
        "int owners(int) IndexOutOfBoundsException",
        "int dependents(int) IllegalArgumentException",
        "int addKernel(int) IllegalArgumentException IllegalStateException",
        "int free(int) IndexOutOfBoundsException",
        "int schedule(int,int) IndexOutOfBoundsException IllegalArgumentException",
        "int pass(int) IllegalArgumentException IllegalStateException",
        "int tick()",
        "long work()",
        "float load() ArithmeticException",
        "double meanValue() ArithmeticException",
        "int publish(int) IndexOutOfBoundsException IllegalStateException",
        "int held(int) NoSuchElementException",
        "boolean isCurrent(int) NoSuchElementException",
        "boolean isSound()",
    };

    private static final String[] RULED_OUT = {"\\btry\\b", "\\bcatch\\b", "\\bfinally\\b", "->", "::",
        "\\bsynchronized\\b", "\\bassert\\b", "\\bprotected\\b", "\\bpackage\\b", "System\\.", "Exact\\b", "\\bRandom\\b",
        "hashCode", "toString", "\\bwhile\\b", "\" \\+", "\\+ \"", "[^\\x00-\\x7f]"};

    private static int wrong;

    public static void main(String[] args) throws IOException {
        checkMembers();
        checkNames();
        if (args.length > 0) {
            checkSource(Files.readString(Path.of(args[0])));
        }
        System.out.println(wrong == 0 ? "the face is the document's" : wrong + " faults of the face");
        if (wrong != 0) {
            System.exit(1);
        }
    }

    private static void checkMembers() {
        Class<NotebookLab> c = NotebookLab.class;
        check(Modifier.isPublic(c.getModifiers()) && Modifier.isFinal(c.getModifiers()), "public and final");
        check(c.getSuperclass() == Object.class && c.getInterfaces().length == 0, "no class above, no interface");
        for (Constructor<?> k : c.getDeclaredConstructors()) {
            check(Modifier.isPublic(k.getModifiers()) && k.getParameterCount() == 0, "constructor " + k);
        }
        Set<String> found = new TreeSet<>();
        for (Method m : c.getDeclaredMethods()) {
            if (!Modifier.isPrivate(m.getModifiers())) {
                check(m.getModifiers() == Modifier.PUBLIC, "only public, not more: " + m);
                found.add(told(m));
            }
        }
        Set<String> due = new TreeSet<>(Set.of(FACE));
        check(found.equals(due), "methods " + found + ", due are " + due);
        for (Field f : c.getDeclaredFields()) {
            check(Modifier.isPrivate(f.getModifiers()), "private: " + f);
            check(!Modifier.isStatic(f.getModifiers()) || Modifier.isFinal(f.getModifiers()), "final: " + f);
        }
        for (Class<?> inside : c.getDeclaredClasses()) {
            check(Modifier.isPrivate(inside.getModifiers()) && Modifier.isStatic(inside.getModifiers()), "in: " + inside);
        }
    }

    private static String told(Method m) {
        StringBuilder text = new StringBuilder();
        text.append(m.getReturnType()).append(' ').append(m.getName()).append('(');
        for (int i = 0; i < m.getParameterCount(); i++) {
            text.append(i > 0 ? "," : "").append(m.getParameterTypes()[i]);
        }
        text.append(')');
        for (Class<?> e : m.getExceptionTypes()) {
            text.append(' ').append(e.getSimpleName());
        }
        return text.toString();
    }

    /** No private method, of the class or of those inside it, bears the name of a public one. */
    private static void checkNames() {
        Set<String> taken = new TreeSet<>();
        for (Method m : NotebookLab.class.getMethods()) {
            taken.add(m.getName());
        }
        checkNamesOf(NotebookLab.class, taken);
        for (Class<?> inside : NotebookLab.class.getDeclaredClasses()) {
            checkNamesOf(inside, taken);
        }
    }

    private static void checkNamesOf(Class<?> c, Set<String> taken) {
        for (Method m : c.getDeclaredMethods()) {
            boolean ofTheFace = c == NotebookLab.class && Modifier.isPublic(m.getModifiers());
            check(ofTheFace || !taken.contains(m.getName()), "a name of its own: " + m);
            check(m.getParameterCount() <= 7, "at most seven parameters: " + m);
        }
    }

    private static void checkSource(String source) {
        String code = source.replaceAll("(?s)/\\*.*?\\*/", "").replaceAll("//[^\\n]*", "");
        for (String ruledOut : RULED_OUT) {
            Matcher m = Pattern.compile(ruledOut).matcher(code);
            check(!m.find(), "ruled out: " + ruledOut);
        }
        for (String line : code.split("\n")) {
            if (line.startsWith("import")) {
                check(line.equals("import java.util.NoSuchElementException;"), line);
            }
        }
    }

    private static void check(boolean right, String what) {
        if (!right) {
            wrong++;
            System.out.println("WRONG: " + what);
        }
    }
}
