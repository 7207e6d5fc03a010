import java.util.ArrayList;
import java.util.List;
import java.util.TreeMap;

/** Runs of up to 512 calls, drawn by a fixed row of numbers, on NotebookLab and on the model: answers must be equal. */
public final class RandomRunsTests {
    private static final int RUNS = 800;
    private static final int CALLS = 512;
    private static final TreeMap<String, Integer> ANSWERS = new TreeMap<>();

    private long drawn;
    private final NotebookLab lab = new NotebookLab();
    private final NotebookModel model = new NotebookModel();
    private final List<String> history = new ArrayList<>();

    private RandomRunsTests(long seed) {
        drawn = seed * 7919 + 17;
    }

    public static void main(String[] args) {
        for (int seed = 0; seed < RUNS; seed++) {
            new RandomRunsTests(seed).go();
        }
        checkThatAllCameUp();
        System.out.println(RUNS + " random runs are as the model's");
    }

    private void go() {
        int width = 1 + below(12);
        boolean early = below(2) == 0;
        for (int i = 0; i < CALLS; i++) {
            if (early && i < 2 + width) {
                build();
            } else {
                step();
            }
            if (i % 64 == 0 || i == CALLS - 1) {
                compareSnapshots();
            }
        }
    }

    private void build() {
        switch (below(4)) {
            case 0:
                same("addKernel", 1 + below(20));
                break;
            case 1:
                same("addData", below(12), below(4), value());
                break;
            default:
                addCell();
        }
    }

    private void step() {
        switch (below(26)) {
            case 0:
                same("addData", variable(), near(0, 3), value());
                break;
            case 1: case 2: case 3:
                same("setData", variable(), value());
                break;
            case 4:
                same("loseData", variable());
                break;
            case 5: case 6:
                addCell();
                break;
            case 7: case 8: case 9:
                same("setConstant", cell(), below(3) == 0 ? near(0, 99) : below(4));
                break;
            case 10: case 11: case 12: case 13: case 14:
                same("run", cell());
                break;
            case 15: case 16:
                same("runAll");
                break;
            case 17:
                same("addKernel", near(1, 20));
                break;
            case 18: case 19:
                same("schedule", cell(), below(3) == 0 ? near(0, 50) : below(6));
                break;
            case 20: case 21: case 22:
                same("pass", below(4) == 0 ? near(1, 50) : 1 + below(4));
                break;
            case 23:
                same("publish", cell());
                break;
            default:
                ask();
        }
    }

    private void ask() {
        String[] ofCell = {"state", "resultAnew", "runs", "found", "failure", "root", "rootFailure", "causes", "owners"};
        String[] ofNothing = {"cellCount", "fresh", "tick", "work", "load", "meanValue", "isSound"};
        String[] ofVariable = {"value", "writer", "dependents"};
        switch (below(5)) {
            case 0:
                same(ofNothing[below(ofNothing.length)]);
                break;
            case 1:
                same(ofCell[below(ofCell.length)], cell());
                break;
            case 2:
                same(ofVariable[below(ofVariable.length)], variable());
                break;
            case 3:
                same("depends", cell(), variable());
                break;
            default:
                same(below(2) == 0 ? "held" : "isCurrent", near(0, 20));
                same("free", near(0, 3));
        }
    }

    private void addCell() {
        char kind = below(20) == 0 ? (char) below(300) : "+*-/".charAt(below(4));
        int second = below(2) == 0 ? -1 : below(20) == 0 ? near(-1, 11) : variable();
        same("addCell", kind, variable(), second, below(3) == 0 ? near(0, 99) : below(3), variable(),
            near(1, 5), near(1, 9));
    }

    private int variable() {
        return below(40) == 0 ? near(0, 11) : below(12);
    }

    private int cell() {
        return below(20) == 0 || model.cellCount() == 0 ? near(0, 11) : below(model.cellCount());
    }

    private int value() {
        return below(3) == 0 ? near(0, 999) : below(4);
    }

    /** Mostly a number between the two, at times one of them or one just outside, rarely one far away. */
    private int near(int least, int greatest) {
        switch (below(40)) {
            case 0:
                return least - 1;
            case 1:
                return greatest + 1;
            case 2:
                return Integer.MAX_VALUE;
            case 3:
                return Integer.MIN_VALUE;
            case 4:
                return least;
            case 5:
                return greatest;
            default:
                return least + below(greatest - least + 1);
        }
    }

    private int below(int bound) {
        drawn = drawn * 6364136223846793005L + 1442695040888963407L;
        return (int) ((drawn >>> 33) % bound);
    }

    private void same(String call, Object... arguments) {
        String got = Lab.answer(lab, call, arguments);
        String want = Lab.answer(model, call, arguments);
        history.add(call + java.util.Arrays.toString(arguments) + " = " + want);
        count(call, want);
        if (!got.equals(want)) {
            stop(history.get(history.size() - 1) + " but got " + got);
        }
    }

    private void compareSnapshots() {
        List<String> got = Lab.snapshot(lab);
        List<String> want = Lab.snapshot(model);
        for (int i = 0; i < want.size(); i++) {
            if (!got.get(i).equals(want.get(i))) {
                stop("due is " + want.get(i) + " but got " + got.get(i));
            }
        }
    }

    private void stop(String what) {
        for (String line : history) {
            System.out.println(line);
        }
        System.out.println("WRONG: " + what);
        System.exit(1);
    }

    private static void count(String call, String answer) {
        boolean word = answer.startsWith("throws") || call.equals("run") || call.equals("state")
            || call.equals("isCurrent") || call.equals("failure") || call.equals("rootFailure");
        ANSWERS.merge(word ? call + " " + answer : call, 1, Integer::sum);
    }

    /** A draw that never meets a case would test nothing there. */
    private static void checkThatAllCameUp() {
        String[] wanted = {"run m", "run z", "run h", "run r", "run w", "state n", "state f", "state s", "state x",
            "isCurrent true", "isCurrent false", "failure m", "failure z", "rootFailure m", "rootFailure z",
            "addData throws IllegalArgumentException", "addData throws IllegalStateException",
            "setData throws NoSuchElementException", "loseData throws IllegalStateException",
            "addCell throws IllegalArgumentException", "addCell throws UnsupportedOperationException",
            "resultAnew throws UnsupportedOperationException", "publish throws IllegalStateException",
            "pass throws IllegalArgumentException", "addKernel throws IllegalStateException"};
        for (String key : wanted) {
            if (!ANSWERS.containsKey(key)) {
                System.out.println("WRONG: no random run had " + key);
                System.exit(1);
            }
        }
    }
}
