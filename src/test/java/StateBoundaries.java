/** The boundary cases of states: promises 12 and 14. */
final class StateBoundaries extends Checks {
    @Says(promise = 12, value = "Throws IndexOutOfBoundsException if there is no such cell")
    static void stateCell() {
        due('f', Rooms.full().state(0));
        due('f', Rooms.full().state(10));
        refusedOutside(0, 10, Rooms::full, INDEX, "state", HERE);
        refusedOutside(0, 6, Rooms::mixed, INDEX, "state", HERE);
        refused(Rooms::empty, INDEX, "state", 0);
        refused(Rooms::allData, INDEX, "state", 0);
    }

    @Says(promise = 12, value = "Returns 'n', 'f', 's' or 'x'.")
    static void eachState() {
        NotebookLab lab = Rooms.mixed();
        char[] due = {'f', 'x', 'x', 'x', 's', 'n', 'n'};
        for (int cell = 0; cell < 7; cell++) {
            due(due[cell], lab.state(cell));
        }
    }

    @Says(promise = 12, value = "A cell has not run, 'n', if it neither ran nor was found again nor failed")
    static void notRun() {
        NotebookLab lab = Rooms.chain();
        for (int cell = 0; cell < 11; cell++) {
            due('n', lab.state(cell));
        }
        due('w', lab.run(0));
        due('n', lab.state(0));
        lab.setData(0, 6);
        lab.setConstant(0, 2);
        due('n', lab.state(0));
        due('m', lab.run(1));
        due('x', lab.state(1));
        lab.addKernel(20);
        due('r', lab.run(0));
        due('f', lab.state(0));
    }

    @Says(promise = 12, value = "it has failed, 'x', if it failed at last")
    static void failedAtLast() {
        NotebookLab lab = Rooms.single('/', 6, 3, 0, 2, 2, 9);
        due('r', lab.run(0));
        lab.setData(1, 0);
        due('s', lab.state(0));
        due('z', lab.run(0));
        due('x', lab.state(0));
        // It stays failed, whatever changes, up to the next run that neither fails nor waits.
        lab.setData(1, 3);
        due('x', lab.state(0));
        lab.setData(0, 9);
        due('w', lab.run(0));
        due('x', lab.state(0));
        lab.setData(0, 6);
        due('h', lab.run(0));
        due('f', lab.state(0));
    }

    @Says(promise = 12, value = "it is fresh, 'f', if .. its constant is the same as then")
    static void freshByTheConstant() {
        NotebookLab lab = Rooms.single('+', 6, -1, 0, 20, 1, 1);
        lab.run(0);
        for (int constant : new int[] {1, 99}) {
            lab.setConstant(0, constant);
            due('s', lab.state(0));
        }
        lab.setConstant(0, 0);
        due('f', lab.state(0));
        due(1, lab.runs(0));
    }

    @Says(promise = 12, value = "it is fresh, 'f', if .. each variable that it reads has the same value as then")
    static void freshByTheValues() {
        NotebookLab lab = Rooms.single('+', 0, 999, 0, 20, 1, 1);
        lab.run(0);
        due('f', lab.state(0));
        lab.setData(0, 1);
        due('s', lab.state(0));
        lab.setData(1, 998);
        due('s', lab.state(0));
        lab.setData(0, 0);
        due('s', lab.state(0));
        lab.setData(1, 999);
        due('f', lab.state(0));
        lab.loseData(0);
        due('s', lab.state(0));
        lab.setData(0, 0);
        lab.loseData(1);
        due('s', lab.state(0));
        lab.setData(1, 999);
        due('f', lab.state(0));
    }

    @Says(promise = 12, value = "and each cell that writes one of these is fresh; it is stale, 's', otherwise")
    static void freshByTheWriters() {
        for (int asked = 1; asked < 11; asked++) {
            NotebookLab lab = Rooms.full();
            lab.setConstant(asked - 1, 50);
            for (int cell = 0; cell < 11; cell++) {
                due(cell < asked - 1 ? 'f' : 's', lab.state(cell));
                due(cell + 6, lab.value(cell + 1));
            }
            due(asked - 1, lab.fresh());
            lab.setConstant(asked - 1, 1);
            due(11, lab.fresh());
        }
    }

    @Says(promise = 12, value = "each cell that writes one of these is fresh: of two writers each one counts")
    static void freshByBothWriters() {
        NotebookLab lab = new NotebookLab();
        lab.addData(0, 0, 1);
        lab.addData(1, 0, 1);
        lab.addKernel(20);
        lab.addCell('*', 0, -1, 0, 2, 1, 1);
        lab.addCell('*', 1, -1, 0, 3, 1, 1);
        lab.addCell('+', 2, 3, 0, 4, 1, 1);
        due(3, lab.runAll());
        // What the cells write stays 0, so only the writers tell.
        lab.setData(0, 2);
        due('s', lab.state(2));
        due('f', lab.state(1));
        due('r', lab.run(0));
        due('f', lab.state(2));
        lab.setData(1, 2);
        due('s', lab.state(2));
        due('f', lab.state(0));
        due('r', lab.run(1));
        due('f', lab.state(2));
        due(1, lab.runs(2));
    }

    @Says(promise = 12,
        value = "it is stale, 's', otherwise: also right after it ran, if what it read was written by a "
            + "stale cell")
    static void staleRightAfterItRan() {
        NotebookLab lab = Rooms.full();
        lab.setData(0, 6);
        lab.setConstant(1, 2);
        due('r', lab.run(1));
        due('s', lab.state(1));
        due(8, lab.value(2));
        due('h', lab.run(1));
        due('s', lab.state(1));
        lab.setData(0, 5);
        due('f', lab.state(1));
        due('s', lab.state(2));
    }

    @Says(promise = 12, value = "it is stale, 's', otherwise: if a cell that writes what it reads has failed")
    static void staleByAFailedWriter() {
        NotebookLab lab = Rooms.full();
        lab.loseData(0);
        due('m', lab.run(0));
        due('x', lab.state(0));
        for (int cell = 1; cell < 11; cell++) {
            due('s', lab.state(cell));
        }
        lab.setData(0, 5);
        due('s', lab.state(1));
        due('h', lab.run(0));
        due(11, lab.fresh());
    }

    @Says(promise = 12,
        value = "A cell is fresh again without a run when its constant and all that it reads are as then.")
    static void freshAgainWithoutARun() {
        NotebookLab lab = Rooms.full();
        lab.setData(0, 999);
        lab.setConstant(5, 0);
        due(0, lab.fresh());
        lab.setConstant(5, 1);
        due(0, lab.fresh());
        lab.loseData(0);
        due(0, lab.fresh());
        lab.setData(0, 5);
        due(11, lab.fresh());
        for (int cell = 0; cell < 11; cell++) {
            due(1, lab.runs(cell));
            due(0, lab.found(cell));
        }
    }

    @Says(promise = 12,
        value = "each variable has the same value as then: then is the last run or find, not an earlier one")
    static void thenIsTheLastTime() {
        NotebookLab lab = Rooms.single('+', 1, -1, 0, 20, 1, 1);
        lab.run(0);
        lab.setData(0, 2);
        lab.run(0);
        lab.setData(0, 1);
        due('s', lab.state(0));
        due('h', lab.run(0));
        due('f', lab.state(0));
        lab.setData(0, 2);
        due('s', lab.state(0));
    }

    @Says(promise = {12, 35}, value = "A cell shown as fresh gives what a run now would give.")
    static void freshGivesWhatARunWouldGive() {
        NotebookLab lab = Rooms.full();
        for (int round = 0; round < 30; round++) {
            lab.setConstant(round * 7 % 11, round * 13 % 3);
            lab.setData(0, round % 4);
            lab.run(round * 5 % 11);
            lab.run(round % 11);
            for (int cell = 0; cell < 11; cell++) {
                if (lab.state(cell) == 'f') {
                    due(lab.resultAnew(cell), lab.value(cell + 1));
                }
            }
            due(true, lab.isSound());
        }
    }

    @Says(promise = 14, value = "Returns how many cells are fresh.")
    static void freshCount() {
        due(0, new NotebookLab().fresh());
        due(0, Rooms.chain().fresh());
        due(1, Rooms.mixed().fresh());
        due(11, Rooms.full().fresh());
        NotebookLab lab = Rooms.chain();
        lab.addKernel(20);
        for (int cell = 0; cell < 11; cell++) {
            due(cell, lab.fresh());
            lab.run(cell);
        }
        due(11, lab.fresh());
        lab.loseData(0);
        due(0, lab.fresh());
    }
}
