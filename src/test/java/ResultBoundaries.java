/** The boundary cases of a cell's result: promises 10 and 13. */
final class ResultBoundaries extends Checks {
    @Says(promise = {10, 13}, value = "'+': the sum of what it reads and the constant")
    static void sums() {
        dueResult(0, '+', 0, -1, 0);
        dueResult(999, '+', 900, -1, 99);
        dueResult(0, '+', 0, 0, 0);
        dueResult(99, '+', 0, 0, 99);
        dueResult(999, '+', 0, 999, 0);
    }

    @Says(promise = {10, 13}, value = "'*': the product of these")
    static void products() {
        dueResult(0, '*', 999, 999, 0);
        dueResult(0, '*', 0, 999, 99);
        dueResult(0, '*', 999, 0, 99);
        dueResult(0, '*', 0, -1, 99);
        dueResult(0, '*', 999, -1, 0);
        dueResult(1, '*', 1, 1, 1);
        dueResult(1, '*', 1, -1, 1);
        dueResult(999, '*', 27, 37, 1);
    }

    @Says(promise = {10, 13},
        value = "'-': the first value minus the second one, or minus the constant, if there is no second "
            + "one, without sign")
    static void differences() {
        dueResult(0, '-', 0, 0, 99);
        dueResult(0, '-', 999, 999, 99);
        dueResult(999, '-', 999, 0, 99);
        dueResult(999, '-', 0, 999, 99);
        dueResult(1, '-', 4, 5, 0);
        dueResult(1, '-', 5, 4, 0);
        dueResult(0, '-', 0, -1, 0);
        dueResult(0, '-', 99, -1, 99);
        dueResult(1, '-', 98, -1, 99);
        dueResult(99, '-', 0, -1, 99);
        dueResult(900, '-', 999, -1, 99);
    }

    @Says(promise = {10, 13},
        value = "'/': the first value divided by the second one, or by the constant, if there is no second "
            + "one, rounded down")
    static void quotients() {
        dueResult(999, '/', 999, 1, 0);
        dueResult(1, '/', 999, 999, 0);
        dueResult(0, '/', 998, 999, 5);
        dueResult(1, '/', 999, 500, 5);
        dueResult(2, '/', 999, 499, 5);
        dueResult(0, '/', 0, 1, 5);
        dueResult(999, '/', 999, -1, 1);
        dueResult(10, '/', 999, -1, 99);
        dueResult(1, '/', 99, -1, 99);
        dueResult(0, '/', 98, -1, 99);
        dueResult(0, '/', 0, -1, 99);
    }

    @Says(promise = {10, 13}, value = "of each result the remainder is taken that it leaves when it is divided by 1000")
    static void remainders() {
        dueResult(999, '+', 500, 499, 0);
        dueResult(0, '+', 500, 500, 0);
        dueResult(1, '+', 500, 500, 1);
        dueResult(0, '+', 999, -1, 1);
        dueResult(98, '+', 999, -1, 99);
        dueResult(999, '+', 999, 999, 1);
        dueResult(0, '+', 999, 999, 2);
        dueResult(97, '+', 999, 999, 99);
        dueResult(999, '*', 999, -1, 1);
        dueResult(0, '*', 500, -1, 2);
        dueResult(1, '*', 7, 11, 13);
        dueResult(901, '*', 999, -1, 99);
        dueResult(1, '*', 999, 999, 1);
        // 998001 * 99 = 98802099
        dueResult(99, '*', 999, 999, 99);
    }

    @Says(promise = {10, 13}, value = "of each result the remainder is taken: it is what the next cell reads")
    static void remaindersInAChain() {
        NotebookLab lab = new NotebookLab();
        lab.addData(0, 0, 999);
        lab.addKernel(20);
        lab.addCell('+', 0, -1, 1, 1, 1, 1);
        lab.addCell('/', 0, 1, 0, 2, 1, 1);
        lab.addCell('-', 1, -1, 1, 3, 1, 1);
        due(0, lab.resultAnew(0));
        dueAnswer("throws " + UNSUPPORTED, lab, "resultAnew", 1);
        due(1, lab.resultAnew(2));
        due(2, lab.runAll());
        due(0, lab.value(1));
        due('x', lab.state(1));
        due('z', lab.failure(1));
        due(1, lab.value(3));
    }

    @Says(promise = {10, 13}, value = "one or two variables that it reads: the two can be the same one")
    static void sameVariableTwice() {
        NotebookLab lab = new NotebookLab();
        lab.addData(0, 0, 999);
        lab.addKernel(20);
        lab.addCell('+', 0, 0, 99, 1, 1, 1);
        lab.addCell('*', 0, 0, 99, 2, 1, 1);
        lab.addCell('-', 0, 0, 99, 3, 1, 1);
        lab.addCell('/', 0, 0, 99, 4, 1, 1);
        due(4, lab.runAll());
        due(97, lab.value(1));
        due(99, lab.value(2));
        due(0, lab.value(3));
        due(1, lab.value(4));
        lab.setData(0, 0);
        due('z', lab.run(3));
        due(99, lab.resultAnew(0));
        dueAnswer("throws " + UNSUPPORTED, lab, "resultAnew", 3);
    }

    @Says(promise = {10, 13}, value = "otherwise it fails, 'z', if it would divide by 0")
    static void divisionsByZero() {
        dueFailure('/', 5, 0, 99);
        dueFailure('/', 0, 0, 99);
        dueFailure('/', 5, -1, 0);
        dueFailure('/', 0, -1, 0);
        // With a second variable the constant divides nothing.
        dueResult(5, '/', 5, 1, 0);
        dueResult(0, '/', 0, 5, 0);
    }

    @Says(promise = 13, value = "Throws UnsupportedOperationException if it would fail")
    static void anewFails() {
        for (int cell : new int[] {1, 2, 3}) {
            refused(Rooms::mixed, UNSUPPORTED, "resultAnew", cell);
        }
        due(12, Rooms.mixed().resultAnew(0));
        due(11, Rooms.mixed().resultAnew(4));
        due(20, Rooms.mixed().resultAnew(5));
        due(13, Rooms.mixed().resultAnew(6));
        NotebookLab lab = Rooms.full();
        lab.loseData(0);
        for (int cell = 0; cell < 11; cell++) {
            due(cell + 6, lab.value(cell + 1));
            refused(lab, UNSUPPORTED, "resultAnew", cell);
        }
    }

    @Says(promise = 13, value = "whatever is kept and however much room kernels have")
    static void anewWithoutKernels() {
        NotebookLab lab = Rooms.chain();
        due(6, lab.resultAnew(0));
        due(16, lab.resultAnew(10));
        due(0, lab.fresh());
        due('n', lab.state(10));
        dueAnswer("throws " + ELEMENT, lab, "value", 1);
        lab.runAll();
        due(16, lab.resultAnew(10));
    }

    @Says(promise = 13,
        value = "if all cells were run in order from the data, whatever is kept: a cell that failed at last, "
            + "and a stale one")
    static void anewWhateverIsKept() {
        NotebookLab lab = Rooms.full();
        lab.loseData(0);
        lab.runAll();
        lab.setData(0, 989);
        due(990, lab.resultAnew(0));
        due(999, lab.resultAnew(9));
        due(0, lab.resultAnew(10));
        due('x', lab.state(10));
        lab.setConstant(10, 99);
        due(98, lab.resultAnew(10));
    }

    @Says(promise = 13, value = "Throws IndexOutOfBoundsException if there is no such cell")
    static void anewCell() {
        due(6, Rooms.full().resultAnew(0));
        due(16, Rooms.full().resultAnew(10));
        refusedOutside(0, 10, Rooms::full, INDEX, "resultAnew", HERE);
        refusedOutside(0, 6, Rooms::mixed, INDEX, "resultAnew", HERE);
        refused(Rooms::empty, INDEX, "resultAnew", 0);
        refused(Rooms::allData, INDEX, "resultAnew", 0);
    }

    private static void dueResult(int want, char kind, int first, int second, int constant) {
        NotebookLab lab = Rooms.single(kind, first, second, constant, 1, 1, 1);
        due(want, lab.resultAnew(0));
        due('r', lab.run(0));
        due(want, lab.value(2));
        due('h', lab.run(0));
        due(want, lab.value(2));
        due('f', lab.state(0));
        due(true, lab.isSound());
    }

    private static void dueFailure(char kind, int first, int second, int constant) {
        NotebookLab lab = Rooms.single(kind, first, second, constant, 1, 1, 1);
        dueAnswer("throws " + UNSUPPORTED, lab, "resultAnew", 0);
        due('z', lab.run(0));
        due('z', lab.failure(0));
        dueAnswer("throws " + ELEMENT, lab, "value", 2);
    }
}
