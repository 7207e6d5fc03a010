/** Calls to which several exceptions apply, and calls with the numbers furthest away. */
final class RefusalBoundaries extends Checks {
    private static final String FIRST = "If several exceptions apply, the one that is documented first is thrown.";

    @Says(promise = 2, value = FIRST)
    static void addData() {
        for (int variable : new int[] {0, 2, 3, 4, 9}) {
            refusedOutside(0, 3, Rooms::mixed, ARGUMENT, "addData", variable, HERE, 0);
            refusedOutside(0, 999, Rooms::mixed, ARGUMENT, "addData", variable, 0, HERE);
        }
        refused(Rooms::full, ARGUMENT, "addData", 12, 4, 1000);
        refused(Rooms::full, ARGUMENT, "addData", 0, 4, 1000);
    }

    @Says(promise = 3, value = FIRST)
    static void setData() {
        for (int variable : new int[] {3, 4, 10, 11}) {
            refusedOutside(0, 999, Rooms::mixed, ARGUMENT, "setData", variable, HERE);
        }
        refused(Rooms::empty, ARGUMENT, "setData", 12, 1000);
        refused(Rooms::empty, ARGUMENT, "setData", 0, 1000);
    }

    @Says(promise = 4, value = FIRST)
    static void loseData() {
        // No data and no value: a cell's variable without one, and one of nobody.
        for (int variable : new int[] {4, 9, 10}) {
            refused(Rooms::mixed, ELEMENT, "loseData", variable);
        }
        refused(Rooms::mixed, ARGUMENT, "loseData", 12);
        refused(Rooms::mixed, ARGUMENT, "loseData", -1);
    }

    @Says(promise = 5, value = FIRST)
    static void addCell() {
        // 10 and 11 can't be read, 0 and 3 can't be written.
        for (int[] readAndWritten : new int[][] {{10, 11}, {0, 0}, {0, 3}, {11, 3}}) {
            int first = readAndWritten[0];
            int writes = readAndWritten[1];
            refused(Rooms::mixed, UNSUPPORTED, "addCell", '+', first, -1, 0, writes, 1, 1);
            refused(Rooms::mixed, ARGUMENT, "addCell", ',', first, -1, 0, writes, 1, 1);
            refusedOutside(-1, 11, Rooms::mixed, ARGUMENT, "addCell", '+', first, HERE, 0, writes, 1, 1);
            refusedOutside(0, 99, Rooms::mixed, ARGUMENT, "addCell", '+', first, -1, HERE, writes, 1, 1);
            refusedOutside(1, 5, Rooms::mixed, ARGUMENT, "addCell", '+', first, -1, 0, writes, HERE, 1);
            refusedOutside(1, 9, Rooms::mixed, ARGUMENT, "addCell", '+', first, -1, 0, writes, 1, HERE);
        }
        refusedOutside(0, 11, Rooms::mixed, ARGUMENT, "addCell", '+', HERE, -1, 0, 0, 1, 1);
        refusedOutside(0, 11, Rooms::mixed, ARGUMENT, "addCell", '+', 10, -1, 0, HERE, 1, 1);
        refusedOutside(0, 11, Rooms::mixed, ARGUMENT, "addCell", '+', 0, 10, 0, HERE, 1, 1);
        refusedOutside(1, 9, Rooms::full, ARGUMENT, "addCell", '+', 0, -1, 0, 1, 1, HERE);
    }

    @Says(promise = {6, 21, 26}, value = FIRST)
    static void noCellAndWrongNumber() {
        for (int cell : new int[] {-1, 7, 10, 11, Integer.MIN_VALUE, Integer.MAX_VALUE}) {
            refusedOutside(0, 99, Rooms::mixed, INDEX, "setConstant", cell, HERE);
            refusedOutside(0, 11, Rooms::mixed, INDEX, "depends", cell, HERE);
            refusedOutside(0, 50, Rooms::mixed, INDEX, "schedule", cell, HERE);
        }
        refused(Rooms::empty, INDEX, "setConstant", 0, 100);
        refused(Rooms::empty, INDEX, "depends", 0, 12);
        refused(Rooms::empty, INDEX, "schedule", 0, 51);
    }

    @Says(promise = {8, 9}, value = FIRST)
    static void noVariable() {
        refusedOutside(0, 11, Rooms::empty, ARGUMENT, "value", HERE);
        refusedOutside(0, 11, Rooms::empty, ARGUMENT, "writer", HERE);
    }

    @Says(promise = {13, 17, 18, 19, 20}, value = FIRST)
    static void noCellAndNothingToTell() {
        for (String call : new String[] {"resultAnew", "failure", "root", "rootFailure", "causes"}) {
            refusedOutside(0, 6, Rooms::mixed, INDEX, call, HERE);
            refusedOutside(0, 10, Rooms::chain, INDEX, call, HERE);
        }
    }

    @Says(promise = 24, value = FIRST)
    static void addKernel() {
        refusedOutside(1, 20, Rooms::full, ARGUMENT, "addKernel", HERE);
        refused(Rooms::full, STATE, "addKernel", 1);
        refused(Rooms::full, STATE, "addKernel", 20);
    }

    @Says(promise = 27, value = FIRST)
    static void pass() {
        refusedOutside(1, 50, Rooms::last, ARGUMENT, "pass", HERE);
        refused(Rooms::last, STATE, "pass", 1);
        refused(Rooms::last, STATE, "pass", 50);
    }

    @Says(promise = 32, value = FIRST)
    static void publish() {
        refusedOutside(0, 10, Rooms::full, INDEX, "publish", HERE);
        // Twenty views, and a stale cell: both are the same exception.
        NotebookLab lab = Rooms.full();
        lab.setData(0, 6);
        refused(lab, STATE, "publish", 0);
        refused(lab, INDEX, "publish", 11);
    }
}
