import java.util.ArrayDeque;
import java.util.ArrayList;
import java.util.Deque;
import java.util.HashMap;
import java.util.List;
import java.util.Map;
import java.util.NoSuchElementException;
import java.util.TreeMap;

/**
 * A second notebook, told as the document tells it, without a thought of speed or room: failures are chains, what is
 * taken of kernels is a list, freshness and lineage are asked by recursion. RandomRunsTests compares NotebookLab to it.
 */
final class NotebookModel {
    private static final class Failure {
        int cell;
        char why;
        Failure cause;
    }

    private static final class Cell {
        char kind;
        List<Integer> reads = new ArrayList<>();
        int constant;
        int writes;
        int need;
        int time;
        int period;
        String ended = "never";
        List<Integer> readThen;
        Failure failure;
        Deque<List<Integer>> kept = new ArrayDeque<>();
        Map<List<Integer>, Integer> results = new HashMap<>();
        int runs;
        int found;
    }

    private static final class Kernel {
        int room;
        List<int[]> needsAndEnds = new ArrayList<>();
    }

    private final Map<Integer, Integer> owner = new TreeMap<>();
    private final Map<Integer, Integer> value = new TreeMap<>();
    private final Map<Integer, Integer> writer = new TreeMap<>();
    private final List<Cell> cells = new ArrayList<>();
    private final List<Kernel> kernels = new ArrayList<>();
    private final List<int[]> views = new ArrayList<>();
    private int tick;
    private long work;

    int addData(int variable, int owner, int value) {
        illegalUnless(in(variable, 0, 11) && in(owner, 0, 3) && in(value, 0, 999));
        stateUnless(!defined(variable));
        this.owner.put(variable, owner);
        this.value.put(variable, value);
        return this.owner.size();
    }

    int setData(int variable, int value) {
        illegalUnless(in(variable, 0, 11) && in(value, 0, 999));
        elementUnless(owner.containsKey(variable));
        Integer before = this.value.put(variable, value);
        return before == null ? -1 : before;
    }

    int loseData(int variable) {
        illegalUnless(in(variable, 0, 11));
        elementUnless(owner.containsKey(variable));
        stateUnless(value.containsKey(variable));
        return value.remove(variable);
    }

    int addCell(char kind, int first, int second, int constant, int writes, int need, int time) {
        illegalUnless("+*-/".indexOf(kind) >= 0 && in(first, 0, 11) && in(second, -1, 11) && in(constant, 0, 99)
            && in(writes, 0, 11) && in(need, 1, 5) && in(time, 1, 9));
        if (!defined(first) || second >= 0 && !defined(second) || defined(writes)) {
            throw new UnsupportedOperationException();
        }
        Cell c = new Cell();
        c.kind = kind;
        c.reads.add(first);
        if (second >= 0) {
            c.reads.add(second);
        }
        c.constant = constant;
        c.writes = writes;
        c.need = need;
        c.time = time;
        cells.add(c);
        writer.put(writes, cells.size() - 1);
        return cells.size() - 1;
    }

    int setConstant(int cell, int constant) {
        Cell c = cell(cell);
        illegalUnless(in(constant, 0, 99));
        int before = c.constant;
        c.constant = constant;
        return before;
    }

    int cellCount() {
        return cells.size();
    }

    int value(int variable) {
        illegalUnless(in(variable, 0, 11));
        elementUnless(value.containsKey(variable));
        return value.get(variable);
    }

    int writer(int variable) {
        illegalUnless(in(variable, 0, 11));
        elementUnless(writer.containsKey(variable));
        return writer.get(variable);
    }

    char run(int number) {
        Cell c = cell(number);
        for (int variable : c.reads) {
            if (!value.containsKey(variable)) {
                Integer by = writer.get(variable);
                fail(number, 'm', by != null && cells.get(by).ended.equals("failed") ? cells.get(by).failure : null);
                return 'm';
            }
        }
        List<Integer> key = key(c);
        Integer result = result(c, key.subList(0, c.reads.size()));
        if (result == null) {
            fail(number, 'z', null);
            return 'z';
        }
        char told = 'h';
        if (c.kept.contains(key)) {
            c.found++;
        } else {
            Kernel best = bestKernel(c.need);
            if (best == null) {
                return 'w';
            }
            told = 'r';
            best.needsAndEnds.add(new int[] {c.need, tick + c.time});
            work += c.need * c.time;
            c.runs++;
            c.kept.addLast(key);
            c.results.put(key, result);
            while (c.kept.size() > 4) {
                c.results.remove(c.kept.removeFirst());
            }
        }
        c.ended = "well";
        c.readThen = key;
        value.put(c.writes, c.results.get(key));
        return told;
    }

    int runAll() {
        for (int i = 0; i < cells.size(); i++) {
            if (state(i) != 'f') {
                run(i);
            }
        }
        return fresh();
    }

    char state(int number) {
        Cell c = cell(number);
        if (c.ended.equals("never")) {
            return 'n';
        }
        if (c.ended.equals("failed")) {
            return 'x';
        }
        if (!key(c).equals(c.readThen)) {
            return 's';
        }
        for (int variable : c.reads) {
            if (writer.containsKey(variable) && state(writer.get(variable)) != 'f') {
                return 's';
            }
        }
        return 'f';
    }

    int resultAnew(int number) {
        Integer result = anew(cell(number).writes);
        if (result == null) {
            throw new UnsupportedOperationException();
        }
        return result;
    }

    int fresh() {
        int count = 0;
        for (int i = 0; i < cells.size(); i++) {
            count += state(i) == 'f' ? 1 : 0;
        }
        return count;
    }

    int runs(int number) {
        return cell(number).runs;
    }

    int found(int number) {
        return cell(number).found;
    }

    char failure(int number) {
        return lastFailure(number).why;
    }

    int root(int number) {
        return rootOf(lastFailure(number)).cell;
    }

    char rootFailure(int number) {
        return rootOf(lastFailure(number)).why;
    }

    int causes(int number) {
        int count = 0;
        for (Failure f = lastFailure(number); f.cause != null; f = f.cause) {
            count++;
        }
        return count;
    }

    boolean depends(int number, int variable) {
        Cell c = cell(number);
        illegalUnless(in(variable, 0, 11));
        for (int read : c.reads) {
            if (read == variable || writer.containsKey(read) && depends(writer.get(read), variable)) {
                return true;
            }
        }
        return false;
    }

    int owners(int number) {
        cell(number);
        boolean[] there = new boolean[4];
        for (int variable : owner.keySet()) {
            if (depends(number, variable)) {
                there[owner.get(variable)] = true;
            }
        }
        return (there[0] ? 1 : 0) + (there[1] ? 2 : 0) + (there[2] ? 4 : 0) + (there[3] ? 8 : 0);
    }

    int dependents(int variable) {
        illegalUnless(in(variable, 0, 11));
        int count = 0;
        for (int i = 0; i < cells.size(); i++) {
            count += depends(i, variable) ? 1 : 0;
        }
        return count;
    }

    int addKernel(int room) {
        illegalUnless(in(room, 1, 20));
        stateUnless(kernels.size() < 3);
        Kernel k = new Kernel();
        k.room = room;
        kernels.add(k);
        return kernels.size() - 1;
    }

    int free(int kernel) {
        indexUnless(in(kernel, 0, kernels.size() - 1));
        return kernels.get(kernel).room - taken(kernels.get(kernel));
    }

    int schedule(int number, int period) {
        Cell c = cell(number);
        illegalUnless(in(period, 0, 50));
        int before = c.period;
        c.period = period;
        return before;
    }

    int pass(int ticks) {
        illegalUnless(in(ticks, 1, 50));
        stateUnless(tick + ticks <= 5000);
        int count = 0;
        for (int i = 0; i < ticks; i++) {
            tick++;
            for (int n = 0; n < cells.size(); n++) {
                int period = cells.get(n).period;
                if (period > 0 && tick % period == 0 && state(n) != 'f') {
                    count += "rh".indexOf(run(n)) >= 0 ? 1 : 0;
                }
            }
        }
        return count;
    }

    int tick() {
        return tick;
    }

    long work() {
        return work;
    }

    float load() {
        float taken = 0;
        float rooms = 0;
        for (Kernel k : kernels) {
            taken += taken(k);
            rooms += k.room;
        }
        if (kernels.isEmpty()) {
            throw new ArithmeticException();
        }
        return taken / rooms;
    }

    double meanValue() {
        if (value.isEmpty()) {
            throw new ArithmeticException();
        }
        double sum = 0;
        for (int v : value.values()) {
            sum += v;
        }
        return sum / value.size();
    }

    int publish(int number) {
        Cell c = cell(number);
        stateUnless(state(number) == 'f' && views.size() < 20);
        views.add(new int[] {number, value.get(c.writes)});
        return views.size() - 1;
    }

    int held(int view) {
        elementUnless(in(view, 0, views.size() - 1));
        return views.get(view)[1];
    }

    boolean isCurrent(int view) {
        elementUnless(in(view, 0, views.size() - 1));
        int number = views.get(view)[0];
        return state(number) == 'f' && value.get(cells.get(number).writes) == views.get(view)[1];
    }

    boolean isSound() {
        return true;
    }

    private static boolean in(int number, int least, int greatest) {
        return least <= number && number <= greatest;
    }

    private boolean defined(int variable) {
        return owner.containsKey(variable) || writer.containsKey(variable);
    }

    private Cell cell(int number) {
        indexUnless(in(number, 0, cells.size() - 1));
        return cells.get(number);
    }

    private List<Integer> key(Cell c) {
        List<Integer> key = new ArrayList<>();
        for (int variable : c.reads) {
            key.add(value.get(variable));
        }
        key.add(c.constant);
        return key;
    }

    private static Integer result(Cell c, List<Integer> read) {
        long first = read.get(0);
        long last = read.size() > 1 ? read.get(1) : c.constant;
        long all = c.constant;
        switch (c.kind) {
            case '+':
                for (int r : read) {
                    all += r;
                }
                break;
            case '*':
                for (int r : read) {
                    all *= r;
                }
                break;
            case '-':
                all = Math.max(first, last) - Math.min(first, last);
                break;
            default:
                if (last == 0) {
                    return null;
                }
                all = first / last;
        }
        return (int) (all % 1000);
    }

    private Integer anew(int variable) {
        if (!writer.containsKey(variable)) {
            return value.get(variable);
        }
        Cell c = cells.get(writer.get(variable));
        List<Integer> read = new ArrayList<>();
        for (int r : c.reads) {
            Integer v = anew(r);
            if (v == null) {
                return null;
            }
            read.add(v);
        }
        return result(c, read);
    }

    private void fail(int number, char why, Failure cause) {
        Failure f = new Failure();
        f.cell = number;
        f.why = why;
        f.cause = cause;
        cells.get(number).failure = f;
        cells.get(number).ended = "failed";
        value.remove(cells.get(number).writes);
    }

    private Failure lastFailure(int number) {
        Cell c = cell(number);
        stateUnless(c.ended.equals("failed"));
        return c.failure;
    }

    private static Failure rootOf(Failure f) {
        return f.cause == null ? f : rootOf(f.cause);
    }

    private int taken(Kernel k) {
        int sum = 0;
        for (int[] needAndEnd : k.needsAndEnds) {
            sum += tick < needAndEnd[1] ? needAndEnd[0] : 0;
        }
        return sum;
    }

    private Kernel bestKernel(int need) {
        Kernel best = null;
        for (Kernel k : kernels) {
            int left = k.room - taken(k);
            if (left >= need && (best == null || left < best.room - taken(best))) {
                best = k;
            }
        }
        return best;
    }

    private static void illegalUnless(boolean right) {
        if (!right) {
            throw new IllegalArgumentException();
        }
    }

    private static void stateUnless(boolean right) {
        if (!right) {
            throw new IllegalStateException();
        }
    }

    private static void elementUnless(boolean right) {
        if (!right) {
            throw new NoSuchElementException();
        }
    }

    private static void indexUnless(boolean right) {
        if (!right) {
            throw new IndexOutOfBoundsException();
        }
    }
}
