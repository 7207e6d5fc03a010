/** The boundary cases of failures: promises 17 to 20. */
final class FailureBoundaries extends Checks {
    private static final String[] CALLS = {"failure", "root", "rootFailure", "causes"};

    @Says(promise = {17, 18, 19, 20}, value = "Throws IndexOutOfBoundsException if there is no such cell")
    static void failureCell() {
        for (String call : CALLS) {
            refusedOutside(0, 6, Rooms::mixed, INDEX, call, HERE);
            refusedOutside(0, 10, FailureBoundaries::longest, INDEX, call, HERE);
            refused(Rooms::empty, INDEX, call, 0);
            refused(Rooms::allData, INDEX, call, 0);
        }
    }

    @Says(promise = {17, 18, 19, 20}, value = "Throws IllegalStateException if it has not failed")
    static void notFailed() {
        for (String call : CALLS) {
            // Fresh, stale, waited, not run.
            for (int cell : new int[] {0, 4, 5, 6}) {
                refused(Rooms::mixed, STATE, call, cell);
            }
            refused(Rooms::full, STATE, call, 0);
            refused(Rooms::full, STATE, call, 10);
        }
    }

    @Says(promise = {17, 18, 19, 20},
        value = "it has failed, 'x', if it failed at last: not any more after a run or a find")
    static void notFailedAnyMore() {
        NotebookLab lab = longest();
        lab.setConstant(0, 1);
        lab.addKernel(20);
        due('r', lab.run(0));
        for (String call : CALLS) {
            refused(lab, STATE, call, 0);
        }
        lab.setConstant(0, 0);
        due('z', lab.run(0));
        due('z', lab.failure(0));
        lab.setConstant(0, 1);
        due('h', lab.run(0));
        for (String call : CALLS) {
            refused(lab, STATE, call, 0);
        }
        due('m', lab.failure(1));
    }

    @Says(promise = 17, value = "Returns 'm' or 'z'.")
    static void failureKinds() {
        NotebookLab lab = Rooms.mixed();
        due('z', lab.failure(1));
        due('m', lab.failure(2));
        due('m', lab.failure(3));
        due('z', longest().failure(0));
        due('m', longest().failure(10));
    }

    @Says(promise = 17, value = "it has failed, 'x', if it failed at last: the last failure is told")
    static void lastFailure() {
        NotebookLab lab = Rooms.single('/', 1, 0, 0, 20, 1, 1);
        due('z', lab.run(0));
        lab.loseData(1);
        due('z', lab.failure(0));
        due('m', lab.run(0));
        due('m', lab.failure(0));
        due('m', lab.rootFailure(0));
        lab.setData(1, 0);
        due('z', lab.run(0));
        due('z', lab.failure(0));
        due('z', lab.rootFailure(0));
    }

    @Says(promise = {18, 19, 20}, value = "up to one without a cause, which can be the failure itself")
    static void rootOfItself() {
        NotebookLab lab = Rooms.mixed();
        due(1, lab.root(1));
        due('z', lab.rootFailure(1));
        due(0, lab.causes(1));
        due(2, lab.root(2));
        due('m', lab.rootFailure(2));
        due(0, lab.causes(2));
    }

    @Says(promise = {18, 19, 20}, value = "The root of a failure is the cause of the cause and so on")
    static void theLongestRow() {
        NotebookLab lab = longest();
        for (int cell = 0; cell < 11; cell++) {
            due(0, lab.root(cell));
            due('z', lab.rootFailure(cell));
            due(cell, lab.causes(cell));
        }
        due(true, lab.isSound());
        NotebookLab missing = Rooms.full();
        missing.loseData(0);
        missing.runAll();
        for (int cell = 0; cell < 11; cell++) {
            due(0, missing.root(cell));
            due('m', missing.rootFailure(cell));
            due(cell, missing.causes(cell));
        }
        due(true, missing.isSound());
    }

    @Says(promise = {18, 19, 20}, value = "the first variable that it reads without a value is the reason")
    static void theFirstWithoutAValue() {
        NotebookLab lab = Rooms.mixed();
        // Both are missing: data, so there is no cause; what cell 1 writes; the other way round.
        lab.addCell('+', 2, 4, 0, 10, 1, 1);
        lab.addCell('+', 6, 2, 0, 11, 1, 1);
        due('m', lab.run(7));
        due(7, lab.root(7));
        due(0, lab.causes(7));
        due('m', lab.run(8));
        due(1, lab.root(8));
        due('z', lab.rootFailure(8));
        due(2, lab.causes(8));
    }

    @Says(promise = {18, 19, 20},
        value = "the first variable that it reads without a value is the reason: the second one, if the "
            + "first has a value")
    static void theSecondWithoutAValue() {
        NotebookLab lab = Rooms.mixed();
        lab.addCell('+', 0, 4, 0, 10, 1, 1);
        lab.addCell('+', 4, 5, 0, 11, 1, 1);
        due('m', lab.run(7));
        due(1, lab.root(7));
        due(1, lab.causes(7));
        due('m', lab.run(8));
        due(1, lab.root(8));
        due(1, lab.causes(8));
        due('z', lab.rootFailure(8));
    }

    @Says(promise = {18, 19, 20},
        value = "the first variable that it reads without a value is the reason: both can be the same one")
    static void theSameTwice() {
        NotebookLab lab = Rooms.mixed();
        lab.addCell('/', 4, 4, 0, 10, 1, 1);
        due('m', lab.run(7));
        due(1, lab.root(7));
        due(1, lab.causes(7));
    }

    @Says(promise = {18, 19, 20},
        value = "if that is written by a cell that has failed: one that was not run or waited is no cause")
    static void noCause() {
        NotebookLab lab = Rooms.mixed();
        lab.addCell('+', 8, -1, 0, 10, 1, 1);
        lab.addCell('+', 9, -1, 0, 11, 1, 1);
        for (int cell : new int[] {7, 8}) {
            due('m', lab.run(cell));
            due(cell, lab.root(cell));
            due('m', lab.rootFailure(cell));
            due(0, lab.causes(cell));
        }
    }

    @Says(promise = {18, 19, 20},
        value = "if that is written by a cell that has failed: one that failed and then waits still has")
    static void causeThatWaits() {
        NotebookLab lab = Rooms.chain();
        lab.loseData(0);
        due('m', lab.run(0));
        lab.setData(0, 5);
        due('w', lab.run(0));
        due('m', lab.run(1));
        due(0, lab.root(1));
        due(1, lab.causes(1));
    }

    @Says(promise = {18, 19, 20}, value = "the last failure of that cell, as it is then, is the cause of the new one")
    static void asItIsThen() {
        NotebookLab lab = longest();
        // Cell 0 fails anew by 'm', but those behind it failed by its 'z'.
        lab.loseData(0);
        due('m', lab.run(0));
        due('m', lab.rootFailure(0));
        for (int cell = 1; cell < 11; cell++) {
            due('z', lab.rootFailure(cell));
            due(cell, lab.causes(cell));
        }
        // Now cell 1 fails by the new one, and cell 3 anew by that of cell 2, whose causes stay.
        due('m', lab.run(1));
        due('m', lab.rootFailure(1));
        due('m', lab.run(3));
        due('z', lab.rootFailure(3));
        due(3, lab.causes(3));
        due('m', lab.run(2));
        due('m', lab.rootFailure(2));
        due('z', lab.rootFailure(3));
    }

    @Says(promise = {18, 19, 20},
        value = "the last failure of that cell, as it is then: a run of that cell does not take it away")
    static void causesThatRan() {
        NotebookLab lab = longest();
        lab.addKernel(20);
        lab.setConstant(0, 1);
        due('r', lab.run(0));
        due('r', lab.run(1));
        due(0, lab.root(2));
        due('z', lab.rootFailure(2));
        due(2, lab.causes(2));
        due(10, lab.causes(10));
        due(true, lab.isSound());
        due('m', lab.run(3));
        due(3, lab.causes(3));
    }

    @Says(promise = 20,
        value = "Returns the number of causes, 0 if it is the root itself: a new failure can have fewer and "
            + "more")
    static void fewerAndMoreCauses() {
        NotebookLab lab = new NotebookLab();
        lab.addData(0, 0, 1);
        lab.addData(1, 0, 1);
        lab.addCell('/', 0, -1, 0, 2, 1, 1);
        lab.addCell('+', 2, -1, 0, 3, 1, 1);
        lab.addCell('+', 1, 3, 0, 4, 1, 1);
        due('m', lab.run(2));
        due(0, lab.causes(2));
        due('m', lab.run(1));
        due('m', lab.run(2));
        due(1, lab.causes(2));
        due(1, lab.root(2));
        due('z', lab.run(0));
        due('m', lab.run(1));
        due('m', lab.run(2));
        due(2, lab.causes(2));
        due(0, lab.root(2));
        lab.loseData(1);
        due('m', lab.run(2));
        due(0, lab.causes(2));
        due(2, lab.root(2));
    }

    /** The most causes: cell 0 divides by 0, and each cell fails by what the one before did not give. */
    private static NotebookLab longest() {
        NotebookLab lab = new NotebookLab();
        lab.addData(0, 0, 5);
        lab.addCell('/', 0, -1, 0, 1, 1, 9);
        for (int cell = 1; cell < 11; cell++) {
            lab.addCell('+', cell, -1, 1, cell + 1, 1, 9);
        }
        lab.runAll();
        return lab;
    }
}
