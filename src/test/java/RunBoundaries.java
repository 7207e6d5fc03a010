/** The boundary cases of runs and of kept results: promises 10, 11, 15 and 16. */
final class RunBoundaries extends Checks {
    // run: which of the five it is

    @Says(promise = 10, value = "Throws IndexOutOfBoundsException if there is no such cell")
    static void runCell() {
        NotebookLab lab = Rooms.full();
        due('h', lab.run(0));
        due('h', lab.run(10));
        refusedOutside(0, 10, Rooms::full, INDEX, "run", HERE);
        refusedOutside(0, 6, Rooms::mixed, INDEX, "run", HERE);
        refused(Rooms::empty, INDEX, "run", 0);
        refused(Rooms::allData, INDEX, "run", 0);
    }

    @Says(promise = 10, value = "it fails, 'm', if a variable that it reads has no value; otherwise it fails, 'z'")
    static void missingAheadOfZero() {
        NotebookLab lab = Rooms.single('/', 5, 0, 0, 5, 1, 1);
        due('z', lab.run(0));
        lab.loseData(0);
        due('m', lab.run(0));
        lab.loseData(1);
        due('m', lab.run(0));
        lab.setData(0, 5);
        due('m', lab.run(0));
        lab.setData(1, 0);
        due('z', lab.run(0));
        NotebookLab constant = Rooms.single('/', 5, -1, 0, 5, 1, 1);
        constant.loseData(0);
        due('m', constant.run(0));
    }

    @Says(promise = 10,
        value = "it fails, 'm', .. otherwise 'z' .. otherwise its result is found again: no kernel is asked "
            + "for that")
    static void failuresNeedNoKernel() {
        NotebookLab lab = new NotebookLab();
        lab.addData(0, 0, 0);
        lab.addCell('/', 0, -1, 0, 1, 5, 9);
        lab.addCell('+', 1, -1, 0, 2, 5, 9);
        due('z', lab.run(0));
        due('m', lab.run(1));
        due(0L, lab.work());
        due(0, lab.runs(0));
        due(0, lab.runs(1));
    }

    @Says(promise = 10,
        value = "'h', if it is kept .. otherwise it runs, 'r', if a kernel has room for its need, and waits, "
            + "'w', if none has")
    static void foundAheadOfWaiting() {
        NotebookLab lab = Rooms.single('+', 5, -1, 0, 5, 5, 9);
        due('r', lab.run(0));
        dueFree(lab, 0);
        due('h', lab.run(0));
        lab.setData(0, 6);
        due('w', lab.run(0));
        lab.setData(0, 5);
        due('h', lab.run(0));
        due(2, lab.found(0));
        due(1, lab.runs(0));
        dueFree(lab, 0);
    }

    @Says(promise = 10,
        value = "it runs, 'r', if a kernel has room for its need: with as much as it needs, and not with one "
            + "less")
    static void roomForTheNeed() {
        for (int need = 1; need <= 5; need++) {
            due('r', Rooms.single('+', 5, -1, 0, need, need, 1).run(0));
            if (need > 1) {
                due('w', Rooms.single('+', 5, -1, 0, need - 1, need, 1).run(0));
            }
        }
        // What is left counts: 20 hold four needs of 5, 19 hold three.
        for (int room : new int[] {19, 20}) {
            NotebookLab lab = Rooms.single('+', 0, -1, 0, room, 5, 9);
            for (int i = 0; i < 3; i++) {
                due('r', runWith(lab, i));
            }
            due(room == 20 ? 'r' : 'w', runWith(lab, 3));
            dueFree(lab, room == 20 ? 0 : 4);
            due('w', runWith(lab, 4));
        }
    }

    @Says(promise = 10, value = "waits, 'w', if none has: then nothing else happens")
    static void waitingChangesNothing() {
        // Cell 5 of the mixed notebook needs 5 and was not run; the same of a cell that failed, and of a stale one.
        NotebookLab lab = Rooms.mixed();
        dueWaits(lab, 5);
        due('n', lab.state(5));
        lab.setConstant(4, 22);
        lab.setData(0, 11);
        dueWaits(lab, 4);
        due('s', lab.state(4));
        due(10, lab.value(7));
        lab.setData(2, 7);
        due('r', lab.run(6));
        due('r', lab.run(0));
        dueWaits(lab, 2);
        due('x', lab.state(2));
        due('m', lab.failure(2));
        dueAnswer("throws " + ELEMENT, lab, "value", 5);
        NotebookLab none = Rooms.chain();
        dueWaits(none, 0);
    }

    @Says(promise = 10, value = "With 'h' and 'r', the variable that it writes has the result as its value")
    static void valuesOfRunsAndFinds() {
        NotebookLab lab = Rooms.single('+', 0, -1, 0, 20, 1, 1);
        due('r', runWith(lab, 999));
        due(999, lab.value(2));
        due('r', runWith(lab, 0));
        due(0, lab.value(2));
        due('h', runWith(lab, 999));
        due(999, lab.value(2));
        due('h', runWith(lab, 0));
        due(0, lab.value(2));
    }

    @Says(promise = 10, value = "The result of a run is there at once, whatever its time is.")
    static void resultIsThereAtOnce() {
        NotebookLab lab = Rooms.single('+', 5, -1, 1, 1, 1, 9);
        due('r', lab.run(0));
        due(6, lab.value(2));
        due('f', lab.state(0));
        due('h', lab.run(0));
        due(0, lab.tick());
    }

    // Kept results

    @Says(promise = 10,
        value = "the 4 results that were computed last by runs are kept: the 4th last is, the 5th last is not")
    static void fourAreKept() {
        NotebookLab lab = ran(4);
        due('h', runWith(lab, 1));
        due(1, lab.value(2));
        lab = ran(5);
        due('h', runWith(lab, 2));
        due('h', runWith(lab, 5));
        due('r', runWith(lab, 1));
    }

    @Says(promise = 10,
        value = "the 4 results that were computed last by runs are kept: each new one replaces the oldest")
    static void eachOneReplacesTheOldest() {
        for (int count = 5; count <= 14; count++) {
            for (int value = 1; value <= count; value++) {
                NotebookLab lab = ran(count);
                due(value > count - 4 ? 'h' : 'r', runWith(lab, value));
                due(value, lab.value(2));
            }
        }
    }

    @Says(promise = 10, value = "the 4 results .. are kept: one that was replaced and is computed again is the newest")
    static void computedAgainIsTheNewest() {
        NotebookLab lab = ran(5);
        due('r', runWith(lab, 1));
        due('h', runWith(lab, 3));
        due('h', runWith(lab, 4));
        due('h', runWith(lab, 5));
        due('r', runWith(lab, 2));
        due('r', runWith(lab, 3));
        due('r', runWith(lab, 4));
        due('h', runWith(lab, 1));
        due('r', runWith(lab, 5));
        due('r', runWith(lab, 1));
    }

    @Says(promise = 10, value = "A result that is found again does not become one that was computed later.")
    static void foundAgainIsAsOldAsBefore() {
        NotebookLab lab = ran(4);
        for (int i = 0; i < 5; i++) {
            due('h', runWith(lab, 1));
        }
        due('r', runWith(lab, 5));
        due('h', runWith(lab, 2));
        due('r', runWith(lab, 1));
        due('r', runWith(lab, 2));
    }

    @Says(promise = 10, value = "computed last by runs: what fails or waits computes nothing")
    static void failuresAndWaitsReplaceNothing() {
        NotebookLab lab = Rooms.single('/', 1, 1, 0, 4, 1, 9);
        for (int value = 1; value <= 4; value++) {
            due('r', runWith(lab, value));
        }
        due('w', runWith(lab, 5));
        lab.loseData(0);
        due('m', lab.run(0));
        lab.setData(0, 5);
        lab.setData(1, 0);
        due('z', lab.run(0));
        lab.setData(1, 1);
        for (int value = 1; value <= 4; value++) {
            due('h', runWith(lab, value));
            due(value, lab.value(2));
        }
    }

    @Says(promise = 10, value = "if it is kept for what it reads and its constant as they are now")
    static void keptForWhatIsReadAndTheConstant() {
        NotebookLab lab = Rooms.single('+', 1, 2, 3, 20, 1, 9);
        due('r', lab.run(0));
        lab.setData(0, 2);
        lab.setData(1, 1);
        due('r', lab.run(0));
        lab.setConstant(0, 0);
        due('r', lab.run(0));
        lab.setData(1, 4);
        due('r', lab.run(0));
        lab.setData(0, 1);
        lab.setData(1, 2);
        lab.setConstant(0, 3);
        due('h', lab.run(0));
        due(6, lab.value(2));
        lab.setData(0, 2);
        lab.setData(1, 1);
        lab.setConstant(0, 0);
        due('h', lab.run(0));
        due(3, lab.value(2));
    }

    @Says(promise = 10,
        value = "if it is kept for what it reads and its constant: a value of 0 and a constant of 0 count as "
            + "others do")
    static void zerosAreKeptToo() {
        NotebookLab lab = Rooms.single('*', 0, 0, 0, 20, 1, 9);
        due('r', lab.run(0));
        due('h', lab.run(0));
        due(0, lab.value(2));
        lab.setConstant(0, 99);
        due('r', lab.run(0));
        lab.setConstant(0, 0);
        due('h', lab.run(0));
    }

    @Says(promise = 10, value = "For each cell, the 4 results: those of one cell are not those of another one")
    static void eachCellHasItsOwn() {
        NotebookLab lab = ran(4);
        due(1, lab.addCell('+', 0, -1, 0, 3, 1, 1));
        for (int value = 1; value <= 4; value++) {
            lab.setData(0, value);
            due('r', lab.run(1));
            due('h', lab.run(0));
        }
        due('r', runWith(lab, 5));
        lab.setData(0, 1);
        due('h', lab.run(1));
        due('r', lab.run(0));
    }

    @Says(promise = {10, 11, 27}, value = "computed last by runs: by those of runAll and of schedules too")
    static void keptOfAllRuns() {
        NotebookLab lab = Rooms.single('+', 1, -1, 0, 20, 1, 1);
        due(1, lab.runAll());
        lab.schedule(0, 1);
        lab.setData(0, 2);
        due(1, lab.pass(1));
        due(2, lab.runs(0));
        due('h', runWith(lab, 1));
        due('h', runWith(lab, 2));
        lab.setData(0, 1);
        due(1, lab.runAll());
        due(3, lab.found(0));
        lab.setData(0, 2);
        due(1, lab.pass(1));
        due(4, lab.found(0));
    }

    // runAll

    @Says(promise = 11, value = "Returns the number of cells that are fresh then.")
    static void runAllReturnsTheFresh() {
        due(0, new NotebookLab().runAll());
        due(0, Rooms.allData().runAll());
        due(0, Rooms.chain().runAll());
        due(11, Rooms.full().runAll());
        // Cell 0 is fresh, 4 waits, 5 waits, 6 takes what is left of a kernel.
        due(2, Rooms.mixed().runAll());
    }

    @Says(promise = 11, value = "Runs all cells that are not fresh, .. each one once")
    static void runAllRunsEachOnce() {
        NotebookLab lab = Rooms.chain();
        lab.addKernel(5);
        due(5, lab.runAll());
        for (int cell = 0; cell < 11; cell++) {
            due(cell < 5 ? 1 : 0, lab.runs(cell));
            due(0, lab.found(cell));
        }
        // Cell 5 waits, so the cells behind it fail.
        due('n', lab.state(5));
        due('x', lab.state(6));
        due(4, lab.causes(10));
        lab.pass(9);
        due(10, lab.runAll());
        dueWaits(lab, 10);
    }

    @Says(promise = 11, value = "by rising numbers, each one once, if it is not fresh when its turn comes")
    static void runAllLooksWhenTheTurnComes() {
        NotebookLab lab = Rooms.single('/', 7, -1, 5, 20, 1, 1);
        lab.addCell('+', 2, -1, 0, 3, 1, 1);
        due(2, lab.runAll());
        // 8 / 5 is 1 as well: run, cell 0 makes cell 1 fresh again.
        lab.setData(0, 8);
        due(0, lab.fresh());
        due(2, lab.runAll());
        due(2, lab.runs(0));
        due(1, lab.runs(1));
        due(0, lab.found(1));
    }

    @Says(promise = 11, value = "Runs all cells that are not fresh: a fresh one is not run")
    static void runAllLeavesTheFresh() {
        NotebookLab lab = Rooms.full();
        due(11, lab.runAll());
        lab.setConstant(10, 2);
        due(11, lab.runAll());
        for (int cell = 0; cell < 11; cell++) {
            due(cell < 10 ? 1 : 2, lab.runs(cell));
            due(0, lab.found(cell));
        }
        lab.setConstant(10, 1);
        due(11, lab.runAll());
        due(1, lab.found(10));
    }

    @Says(promise = 11, value = "Runs all cells that are not fresh: one that has failed is run again")
    static void runAllRunsTheFailed() {
        NotebookLab lab = Rooms.full();
        lab.loseData(0);
        due(0, lab.runAll());
        due(0, lab.runAll());
        due(10, lab.causes(10));
        lab.setData(0, 5);
        due(0, lab.fresh());
        due(11, lab.runAll());
        for (int cell = 0; cell < 11; cell++) {
            due(1, lab.runs(cell));
            due(1, lab.found(cell));
        }
    }

    // runs, found

    @Says(promise = 15, value = "Returns how often a cell ran on a kernel: 'r' alone counts")
    static void runsCountsRuns() {
        due(0, Rooms.chain().runs(10));
        NotebookLab lab = Rooms.mixed();
        int[] due = {1, 0, 0, 0, 1, 0, 0};
        for (int cell = 0; cell < 7; cell++) {
            due(due[cell], lab.runs(cell));
            due(0, lab.found(cell));
        }
        due('h', lab.run(0));
        due(1, lab.runs(0));
        due(1, lab.found(0));
        refusedOutside(0, 6, Rooms::mixed, INDEX, "runs", HERE);
        refusedOutside(0, 10, Rooms::full, INDEX, "runs", HERE);
        due(1, Rooms.full().runs(10));
        refused(Rooms::empty, INDEX, "runs", 0);
    }

    @Says(promise = 16, value = "Returns how often a result of a cell was found again: 'h' alone counts")
    static void foundCountsFinds() {
        due(0, Rooms.chain().found(10));
        NotebookLab lab = Rooms.full();
        for (int i = 1; i <= 400; i++) {
            due('h', lab.run(10));
        }
        due(400, lab.found(10));
        due(0, lab.found(9));
        due(1, lab.runs(10));
        refusedOutside(0, 6, Rooms::mixed, INDEX, "found", HERE);
        refusedOutside(0, 10, Rooms::full, INDEX, "found", HERE);
        refused(Rooms::empty, INDEX, "found", 0);
    }

    @Says("An object is used for at most 512 calls after it has been made")
    static void upTo512Calls() {
        NotebookLab lab = Rooms.single('+', 0, -1, 0, 20, 5, 1);
        int calls = 3;
        int runs = 0;
        for (int value = 1; calls + 3 < 512; value++) {
            due(value - 1, lab.setData(0, value));
            due('r', lab.run(0));
            due(0, lab.pass(1));
            calls += 3;
            runs++;
        }
        due(runs, lab.runs(0));
        calls++;
        for (; calls < 512; calls++) {
            due(runs % 1000, lab.value(2));
        }
    }

    /** One cell that ran for the values 1 to count, with room for more. */
    private static NotebookLab ran(int count) {
        NotebookLab lab = Rooms.single('+', 0, -1, 0, 20, 1, 9);
        for (int value = 1; value <= count; value++) {
            due('r', runWith(lab, value));
        }
        return lab;
    }

    private static char runWith(NotebookLab lab, int value) {
        lab.setData(0, value);
        return lab.run(0);
    }

    private static void dueWaits(NotebookLab lab, int cell) {
        Object before = Lab.snapshot(lab);
        due('w', lab.run(cell));
        due(before, Lab.snapshot(lab));
    }
}
