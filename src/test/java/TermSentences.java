import java.lang.reflect.Method;
import java.lang.reflect.Modifier;
import java.util.ArrayList;
import java.util.Arrays;
import java.util.List;
import java.util.function.Supplier;

/** The sentences of the document's first part that stand under no promise of their own. */
final class TermSentences extends Checks {
    private static final List<Supplier<NotebookLab>> ALL_ROOMS = List.of(Rooms::empty, Rooms::mixed, Rooms::chain,
        Rooms::full, Rooms::allData, Rooms::allDataButThree, Rooms::last);

    /** Calls that change a mixed notebook, among them such that fail, wait, find and are refused. */
    private static final Object[][] STEPS = {{"setData", 0, 11}, {"run", 0}, {"run", 4}, {"setData", 0, 10}, {"run", 0},
        {"schedule", 6, 2}, {"pass", 3}, {"setConstant", 4, 20}, {"loseData", 0}, {"pass", 1}, {"runAll"},
        {"setData", 2, 3}, {"setData", 0, 9}, {"addKernel", 6}, {"runAll"}, {"publish", 0}, {"publish", 5},
        {"addData", 10, 0, 4}, {"addCell", '/', 10, 0, 0, 11, 1, 2}, {"schedule", 7, 1}, {"pass", 2}, {"run", 12},
        {"setData", 10, 0}, {"pass", 9}, {"loseData", 1}, {"runAll"}};

    @Says(promise = {2, 5, 9}, value = "A variable is data, or is written by one cell, or is neither.")
    static void dataOrWrittenOrNeither() {
        for (Supplier<NotebookLab> room : ALL_ROOMS) {
            for (int variable = 0; variable < 12; variable++) {
                boolean data = !throwsAny(room.get(), "setData", variable, 0);
                boolean written = !throwsAny(room.get(), "writer", variable);
                due(false, data && written);
                String told = Lab.answer(room.get(), "addData", variable, 0, 0);
                due(data || written, told.equals("throws " + STATE));
            }
        }
        for (int cell = 0; cell < 7; cell++) {
            due(cell, Rooms.mixed().writer(cell + 3));
        }
    }

    @Says("Cells, data, runs, schedules and kernels come by calls: those that come later are as those that come first")
    static void laterIsAsEarlier() {
        NotebookLab first = new NotebookLab();
        NotebookLab later = new NotebookLab();
        for (NotebookLab lab : new NotebookLab[] {first, later}) {
            due(1, lab.addData(0, 0, 7));
            due(0, lab.addKernel(5));
            due(0, lab.addCell('+', 0, -1, 1, 1, 2, 9));
        }
        addTheRest(first);
        for (NotebookLab lab : new NotebookLab[] {first, later}) {
            due('r', lab.run(0));
            due(0, lab.pass(3));
        }
        addTheRest(later);
        due(Lab.snapshot(first), Lab.snapshot(later));
        due(Lab.goOn(first), Lab.goOn(later));
    }

    @Says("staleness, lineage and loads are asked: asking changes nothing of what is answered later")
    static void askingChangesNothing() {
        NotebookLab asked = Rooms.mixed();
        NotebookLab left = Rooms.mixed();
        for (Object[] step : STEPS) {
            String call = (String) step[0];
            Object[] arguments = Arrays.copyOfRange(step, 1, step.length);
            due(Lab.answer(left, call, arguments), Lab.answer(asked, call, arguments));
            due(Lab.snapshot(asked), Lab.snapshot(asked));
        }
        due(Lab.snapshot(left), Lab.snapshot(asked));
        due(Lab.goOn(left), Lab.goOn(asked));
    }

    @Says(promise = {8, 11, 13},
        value = "What a cell gives is kept, and found by running all cells in order from the data.")
    static void keptAndFoundInOrder() {
        NotebookLab lab = new NotebookLab();
        for (int kernel = 0; kernel < 3; kernel++) {
            lab.addKernel(20);
        }
        lab.addData(9, 0, 123);
        lab.addData(4, 1, 45);
        lab.addCell('*', 9, 4, 7, 11, 1, 1);
        lab.addCell('-', 11, 9, 0, 0, 1, 1);
        lab.addCell('/', 11, -1, 6, 8, 1, 1);
        lab.addCell('+', 0, 8, 99, 2, 1, 1);
        int[] writes = {11, 0, 8, 2};
        // 38745, so 745; 745 - 123; 745 / 6; 622 + 124 + 99.
        int[] due = {745, 622, 124, 845};
        due(4, lab.runAll());
        for (int cell = 0; cell < 4; cell++) {
            due(due[cell], lab.value(writes[cell]));
            due(due[cell], lab.resultAnew(cell));
        }
        lab.setData(9, 1);
        // 315; 314; 52; 465.
        int[] anew = {315, 314, 52, 465};
        for (int cell = 0; cell < 4; cell++) {
            due(due[cell], lab.value(writes[cell]));
            due(anew[cell], lab.resultAnew(cell));
        }
        due(4, lab.runAll());
        for (int cell = 0; cell < 4; cell++) {
            due(anew[cell], lab.value(writes[cell]));
        }
    }

    @Says(promise = 12, value = "Returns the state of a cell, as it is kept: not as a run now would leave it")
    static void stateAsItIsKept() {
        NotebookLab lab = Rooms.single('*', 6, 0, 0, 20, 1, 1);
        due('n', lab.state(0));
        due('n', lab.state(0));
        lab.run(0);
        // A run now would give the same value, or find it, or fail: the cell is stale as long as it is not run.
        lab.setData(0, 7);
        due(lab.value(2), lab.resultAnew(0));
        due('s', lab.state(0));
        lab.loseData(0);
        due('s', lab.state(0));
        due('m', lab.run(0));
        lab.setData(0, 6);
        due(0, lab.resultAnew(0));
        due('x', lab.state(0));
        due('x', lab.state(0));
    }

    @Says("A method that throws an exception changes nothing: all calls that a notebook refuses, one after the other")
    static void refusedCallsChangeNothing() {
        for (Supplier<NotebookLab> room : List.<Supplier<NotebookLab>>of(Rooms::mixed, Rooms::full)) {
            NotebookLab lab = room.get();
            int refused = 0;
            for (Method m : NotebookLab.class.getDeclaredMethods()) {
                if (Modifier.isPublic(m.getModifiers())) {
                    refused += makeRefusedCalls(m, room, lab);
                }
            }
            due(true, refused > 1000);
            due(Lab.goOn(room.get()), Lab.goOn(lab));
        }
    }

    private static void addTheRest(NotebookLab lab) {
        due(2, lab.addData(2, 3, 0));
        due(1, lab.addKernel(20));
        due(1, lab.addCell('*', 1, 2, 4, 3, 5, 2));
        due(2, lab.addCell('/', 1, 2, 4, 4, 5, 2));
        due(0, lab.schedule(1, 4));
    }

    private static boolean throwsAny(NotebookLab lab, String call, Object... arguments) {
        return Lab.answer(lab, call, arguments).startsWith("throws ");
    }

    /** Makes those calls on a notebook that another one of the same room refuses, and tells how many these were. */
    private static int makeRefusedCalls(Method m, Supplier<NotebookLab> room, NotebookLab lab) {
        int refused = 0;
        for (Object[] arguments : argumentsOf(m)) {
            String told = Lab.answer(room.get(), m.getName(), arguments);
            if (told.startsWith("throws ")) {
                dueAnswer(told, lab, m.getName(), arguments);
                refused++;
            }
        }
        return refused;
    }

    /** Rows of arguments, of each type some that are right and some that are not; of long rows not each one. */
    private static List<Object[]> argumentsOf(Method m) {
        Class<?>[] types = m.getParameterTypes();
        List<Object[]> rows = new ArrayList<>();
        rows.add(new Object[0]);
        for (Class<?> type : types) {
            List<Object[]> longer = new ArrayList<>();
            for (Object[] row : rows) {
                for (Object next : type == char.class ? new Object[] {'+', 'x'} : numbers(types.length)) {
                    Object[] with = Arrays.copyOf(row, row.length + 1);
                    with[row.length] = next;
                    longer.add(with);
                }
            }
            rows = longer;
        }
        return rows;
    }

    private static Object[] numbers(int count) {
        return count > 3 ? new Object[] {-1, 1, 10, 11}
            : new Object[] {Integer.MIN_VALUE, -1, 0, 2, 3, 10, 11, 12, 20, 51, 100, 1000, Integer.MAX_VALUE};
    }
}
