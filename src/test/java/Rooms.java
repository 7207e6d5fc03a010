/** Notebooks with which the tests of boundaries begin. */
final class Rooms {
    private Rooms() {
    }

    static NotebookLab empty() {
        return new NotebookLab();
    }

    /**
     * Of all something, at the tick 1: variables 0 and 1 are data, 2 is data without a value, 3 to 9 are written by
     * the cells 0 to 6, 10 and 11 are neither; cell 0 is fresh, 1, 2 and 3 have failed, 4 is stale, 5 waited, 6 was not
     * run; two kernels, each with a need taken; view 0 is of cell 0; the cells 0 and 6 are scheduled.
     */
    static NotebookLab mixed() {
        NotebookLab lab = new NotebookLab();
        lab.addData(0, 1, 10);
        lab.addData(1, 2, 0);
        lab.addData(2, 3, 7);
        lab.loseData(2);
        lab.addKernel(3);
        lab.addKernel(2);
        lab.addCell('+', 0, -1, 2, 3, 1, 9);
        lab.addCell('/', 0, 1, 5, 4, 1, 1);
        lab.addCell('+', 3, 2, 0, 5, 1, 1);
        lab.addCell('*', 4, -1, 2, 6, 1, 1);
        lab.addCell('-', 0, -1, 20, 7, 2, 3);
        lab.addCell('+', 0, 0, 0, 8, 5, 1);
        lab.addCell('+', 3, -1, 1, 9, 1, 1);
        for (int cell = 0; cell < 6; cell++) {
            lab.run(cell);
        }
        lab.publish(0);
        lab.setConstant(4, 21);
        lab.schedule(0, 7);
        lab.schedule(6, 50);
        lab.pass(1);
        return lab;
    }

    /** The most cells: variable 0 is data, of the value 5, and each cell adds 1 to what the one before wrote. */
    static NotebookLab chain() {
        NotebookLab lab = new NotebookLab();
        lab.addData(0, 3, 5);
        for (int cell = 0; cell < 11; cell++) {
            lab.addCell('+', cell, -1, 1, cell + 1, 1, 9);
        }
        return lab;
    }

    /** The most cells, kernels and views; all cells are fresh, and view n is of cell n % 11. */
    static NotebookLab full() {
        NotebookLab lab = chain();
        for (int kernel = 0; kernel < 3; kernel++) {
            lab.addKernel(20);
        }
        lab.runAll();
        for (int view = 0; view < 20; view++) {
            lab.publish(view % 11);
        }
        return lab;
    }

    /** All variables are data: variable v has the value v. */
    static NotebookLab allData() {
        NotebookLab lab = new NotebookLab();
        for (int variable = 0; variable < 12; variable++) {
            lab.addData(variable, variable % 4, variable);
        }
        return lab;
    }

    /** Variables 0 to 8 are data: variable v has the owner v % 4; the other three are free to be written. */
    static NotebookLab allDataButThree() {
        NotebookLab lab = new NotebookLab();
        for (int variable = 0; variable < 9; variable++) {
            lab.addData(variable, variable % 4, variable);
        }
        return lab;
    }

    /** At the last tick. */
    static NotebookLab last() {
        NotebookLab lab = mixed();
        lab.pass(49);
        for (int i = 0; i < 99; i++) {
            lab.pass(50);
        }
        return lab;
    }

    /** One kernel and one cell, which writes variable 2 and reads 0, and 1 if there is a second value. */
    static NotebookLab single(char kind, int first, int second, int constant, int room, int need, int time) {
        NotebookLab lab = new NotebookLab();
        lab.addData(0, 0, first);
        if (second >= 0) {
            lab.addData(1, 0, second);
        }
        lab.addKernel(room);
        lab.addCell(kind, 0, second >= 0 ? 1 : -1, constant, 2, need, time);
        return lab;
    }
}
