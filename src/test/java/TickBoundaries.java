/** The boundary cases of schedules, of ticks and of the mean value: promises 26, 27, 28 and 31. */
final class TickBoundaries extends Checks {
    // schedule

    @Says(promise = 26, value = "Throws IndexOutOfBoundsException if there is no such cell")
    static void scheduleCell() {
        NotebookLab lab = Rooms.full();
        due(0, lab.schedule(0, 1));
        due(0, lab.schedule(10, 1));
        refusedOutside(0, 10, Rooms::full, INDEX, "schedule", HERE, 1);
        refusedOutside(0, 6, Rooms::mixed, INDEX, "schedule", HERE, 1);
        refused(Rooms::empty, INDEX, "schedule", 0, 1);
        refused(Rooms::allData, INDEX, "schedule", 0, 0);
    }

    @Says(promise = 26, value = "period: the period, 1 to 50, or 0 for none")
    static void schedulePeriod() {
        NotebookLab lab = Rooms.mixed();
        due(7, lab.schedule(0, 0));
        due(0, lab.schedule(0, 1));
        due(1, lab.schedule(0, 50));
        due(50, lab.schedule(0, 49));
        refusedOutside(0, 50, Rooms::mixed, ARGUMENT, "schedule", 0, HERE);
        refusedOutside(0, 50, Rooms::full, ARGUMENT, "schedule", 10, HERE);
    }

    @Says(promise = 26, value = "Returns the period before, or 0.")
    static void schedulePeriodBefore() {
        NotebookLab lab = Rooms.mixed();
        due(0, lab.schedule(1, 5));
        due(5, lab.schedule(1, 5));
        due(5, lab.schedule(1, 0));
        due(0, lab.schedule(1, 0));
        due(50, lab.schedule(6, 0));
        due(7, lab.schedule(0, 0));
    }

    @Says(promise = {26, 27}, value = "Schedules a cell, or ends that.")
    static void scheduleEnds() {
        NotebookLab lab = Rooms.single('+', 1, -1, 0, 20, 1, 1);
        lab.schedule(0, 1);
        due(1, lab.pass(1));
        lab.schedule(0, 0);
        lab.setData(0, 2);
        due(0, lab.pass(50));
        due('s', lab.state(0));
        lab.schedule(0, 1);
        due('s', lab.state(0));
        due(1, lab.pass(1));
        due('f', lab.state(0));
    }

    // pass

    @Says(promise = 27, value = "ticks: the number of ticks, 1 to 50")
    static void passTicks() {
        NotebookLab lab = Rooms.mixed();
        lab.pass(1);
        due(2, lab.tick());
        lab.pass(50);
        due(52, lab.tick());
        refusedOutside(1, 50, Rooms::mixed, ARGUMENT, "pass", HERE);
        refusedOutside(1, 50, Rooms::empty, ARGUMENT, "pass", HERE);
        refused(Rooms::mixed, ARGUMENT, "pass", -1);
    }

    @Says(promise = {27, 28}, value = "Throws IllegalStateException if the tick would be greater than 5000")
    static void passUpToTheLastTick() {
        NotebookLab lab = new NotebookLab();
        for (int i = 1; i <= 100; i++) {
            due(0, lab.pass(50));
            due(50 * i, lab.tick());
        }
        for (int ticks : new int[] {1, 2, 49, 50}) {
            refused(Rooms::last, STATE, "pass", ticks);
        }
        due(5000, Rooms.last().tick());
        for (int left = 1; left < 50; left++) {
            NotebookLab before = new NotebookLab();
            for (int i = 0; i < 99; i++) {
                before.pass(50);
            }
            before.pass(50 - left);
            due(5000 - left, before.tick());
            refused(before, STATE, "pass", left + 1);
            refused(before, STATE, "pass", 50);
            due(0, before.pass(left));
            due(5000, before.tick());
        }
    }

    @Says(promise = 27, value = "the tick would be greater than 5000: then no tick passes, and nothing is run")
    static void refusedPassRunsNothing() {
        NotebookLab lab = Rooms.single('+', 1, -1, 0, 20, 5, 9);
        for (int i = 0; i < 99; i++) {
            lab.pass(50);
        }
        lab.pass(40);
        lab.run(0);
        lab.setData(0, 2);
        lab.schedule(0, 1);
        refused(lab, STATE, "pass", 11);
        due(4990, lab.tick());
        dueFree(lab, 15);
        due('s', lab.state(0));
        due(1, lab.pass(10));
        due(5000, lab.tick());
    }

    @Says(promise = 27,
        value = "When a tick passes, its number increases by 1, .. Then .. each cell that is scheduled .. is "
            + "run: at the last tick too")
    static void runsAtTheLastTick() {
        NotebookLab lab = Rooms.single('+', 1, -1, 0, 20, 5, 9);
        for (int i = 0; i < 99; i++) {
            lab.pass(50);
        }
        lab.schedule(0, 50);
        due(0, lab.pass(49));
        due(4999, lab.tick());
        due('n', lab.state(0));
        due(1, lab.pass(1));
        due('f', lab.state(0));
        // What is taken at the last tick is never free again, but all else can be called.
        dueFree(lab, 15);
        due('h', lab.run(0));
        lab.setData(0, 3);
        due('r', lab.run(0));
        dueFree(lab, 10);
        due(1, lab.runAll());
        due(true, lab.isSound());
    }

    @Says(promise = 27, value = "whose period divides the number of the tick")
    static void periodDividesTheTick() {
        for (int period = 1; period <= 50; period++) {
            NotebookLab lab = Rooms.single('+', 1, -1, 0, 20, 1, 1);
            lab.schedule(0, period);
            if (period > 1) {
                due(0, lab.pass(period - 1));
            }
            due('n', lab.state(0));
            due(1, lab.pass(1));
            due('f', lab.state(0));
            // As many ticks again, and not with the one before.
            lab.setData(0, 2);
            if (period > 1) {
                due(0, lab.pass(period - 1));
                due('s', lab.state(0));
            }
            due(1, lab.pass(1));
            due(2 * period, lab.tick());
        }
    }

    @Says(promise = 27,
        value = "whose period divides the number of the tick: the tick counts, not when the cell was "
            + "scheduled")
    static void periodCountsFromTickZero() {
        NotebookLab lab = Rooms.single('+', 1, -1, 0, 20, 1, 1);
        lab.pass(7);
        lab.schedule(0, 5);
        due(0, lab.pass(2));
        due('n', lab.state(0));
        due(1, lab.pass(1));
        due(10, lab.tick());
        lab.setData(0, 2);
        lab.pass(4);
        lab.schedule(0, 4);
        due(0, lab.pass(1));
        due(1, lab.pass(1));
        due(16, lab.tick());
    }

    @Says(promise = 27,
        value = "each cell that is scheduled .. is run when a tick passes: not at the tick at which it is "
            + "scheduled")
    static void notRunWhenScheduled() {
        NotebookLab lab = Rooms.single('+', 1, -1, 0, 20, 1, 1);
        lab.schedule(0, 1);
        due('n', lab.state(0));
        due(0, lab.tick());
        due(1, lab.pass(1));
        lab.addCell('+', 0, -1, 0, 3, 1, 1);
        lab.schedule(1, 1);
        due('n', lab.state(1));
        due(1, lab.pass(1));
    }

    @Says(promise = 27,
        value = "needs whose time is over are free again. Then .. each cell that is scheduled .. is run")
    static void needsAreFreeAheadOfTheRuns() {
        for (int time = 1; time <= 9; time++) {
            NotebookLab lab = Rooms.single('+', 1, -1, 0, 5, 5, time);
            due('r', lab.run(0));
            lab.setData(0, 2);
            lab.schedule(0, 1);
            if (time > 1) {
                due(0, lab.pass(time - 1));
            }
            due('s', lab.state(0));
            due(1, lab.pass(1));
            due(2, lab.value(2));
            dueFree(lab, 0);
        }
    }

    @Says(promise = 27, value = "by rising numbers, each cell that is scheduled")
    static void byRisingNumbers() {
        // Of a room of 4 the needs of 1 of the cells 0 to 3 take all, whatever the order in which they were scheduled.
        NotebookLab lab = Rooms.chain();
        lab.addKernel(4);
        for (int cell = 10; cell >= 0; cell--) {
            lab.schedule(cell, 2);
        }
        due(4, lab.pass(2));
        due('f', lab.state(3));
        due('n', lab.state(4));
        due('x', lab.state(5));
        due(0, lab.pass(8));
        due(4, lab.pass(2));
        due('f', lab.state(7));
    }

    @Says(promise = 27, value = "and which is not fresh, is run: fresh ones are not")
    static void freshOnesAreNotRun() {
        NotebookLab lab = Rooms.full();
        for (int cell = 0; cell < 11; cell++) {
            lab.schedule(cell, 1);
        }
        due(0, lab.pass(50));
        for (int cell = 0; cell < 11; cell++) {
            due(1, lab.runs(cell));
            due(0, lab.found(cell));
        }
        lab.setData(0, 6);
        due(11, lab.pass(1));
        due(0, lab.pass(49));
        due(17, lab.value(11));
    }

    @Says(promise = 27, value = "Returns the number of runs by schedules that told 'r' or 'h'.")
    static void countsRunsAndFinds() {
        NotebookLab lab = Rooms.full();
        for (int cell = 1; cell < 11; cell++) {
            lab.schedule(cell, 1);
        }
        // Cell 0 is stale and not scheduled, so the ten behind it are found at each tick and stay stale.
        lab.setData(0, 6);
        due(500, lab.pass(50));
        due(50, lab.found(1));
        due(50, lab.found(10));
        due(1, lab.runs(10));
        due(10, lab.pass(1));
        due(0, lab.found(0));
    }

    @Says(promise = 27, value = "that told 'r' or 'h': what fails or waits does not count")
    static void countsNoFailuresAndWaits() {
        NotebookLab lab = Rooms.single('/', 1, 0, 0, 5, 5, 9);
        lab.schedule(0, 1);
        due(0, lab.pass(50));
        due('z', lab.failure(0));
        lab.loseData(1);
        due(0, lab.pass(50));
        due('m', lab.failure(0));
        lab.setData(1, 1);
        due(1, lab.pass(50));
        lab.setData(0, 2);
        due(1, lab.pass(1));
        lab.setData(0, 3);
        due(0, lab.pass(8));
        due('s', lab.state(0));
        due(1, lab.pass(1));
        due(0, new NotebookLab().pass(50));
    }

    @Says(promise = 27, value = "Returns the number of runs by schedules: those of run and runAll do not count")
    static void countsSchedulesAlone() {
        NotebookLab lab = Rooms.full();
        lab.run(3);
        lab.setConstant(10, 2);
        lab.runAll();
        due(0, lab.pass(1));
    }

    @Says(promise = 27, value = "Lets ticks pass: many at once are as many as one by one")
    static void manyAtOnceAreAsOneByOne() {
        for (int ticks = 1; ticks <= 50; ticks++) {
            NotebookLab atOnce = busy();
            NotebookLab oneByOne = busy();
            int count = 0;
            for (int i = 0; i < ticks; i++) {
                count += oneByOne.pass(1);
            }
            due(count, atOnce.pass(ticks));
            due(Lab.snapshot(oneByOne), Lab.snapshot(atOnce));
        }
    }

    // tick

    @Says(promise = 28, value = "Returns the number of the tick.")
    static void tickNumber() {
        due(0, Rooms.empty().tick());
        due(0, Rooms.full().tick());
        due(1, Rooms.mixed().tick());
        due(5000, Rooms.last().tick());
        NotebookLab lab = Rooms.full();
        lab.run(0);
        lab.runAll();
        lab.schedule(0, 1);
        due(0, lab.tick());
    }

    // meanValue

    @Says(promise = 31, value = "Throws ArithmeticException if there are none")
    static void meanOfNone() {
        refused(Rooms::empty, ARITHMETIC, "meanValue");
        NotebookLab lab = new NotebookLab();
        lab.addData(0, 0, 5);
        lab.loseData(0);
        refused(lab, ARITHMETIC, "meanValue");
        lab.addCell('+', 0, -1, 0, 1, 1, 1);
        lab.run(0);
        refused(lab, ARITHMETIC, "meanValue");
        lab.setData(0, 0);
        due(0.0, lab.meanValue());
    }

    @Says(promise = 31, value = "Returns the sum of these values divided by their number, both converted to double.")
    static void meanOfAll() {
        due((double) 66 / (double) 12, Rooms.allData().meanValue());
        NotebookLab lab = Rooms.allData();
        for (int variable = 0; variable < 12; variable++) {
            lab.setData(variable, 999);
        }
        due(999.0, lab.meanValue());
        for (int variable = 0; variable < 11; variable++) {
            lab.loseData(variable);
            due(999.0, lab.meanValue());
        }
        lab.setData(0, 0);
        due(499.5, lab.meanValue());
        lab.setData(1, 0);
        due(333.0, lab.meanValue());
        lab.setData(2, 1);
        due(250.0, lab.meanValue());
        lab.setData(3, 1);
        due(1001.0 / 5.0, lab.meanValue());
    }

    @Says(promise = 31, value = "the mean value of all variables that have one: data and what cells wrote")
    static void meanOfDataAndCells() {
        due((10.0 + 0.0 + 12.0 + 10.0) / 4.0, Rooms.mixed().meanValue());
        due(126.0 / 12.0, Rooms.full().meanValue());
        due(5.0, Rooms.chain().meanValue());
        NotebookLab lab = Rooms.full();
        lab.loseData(0);
        due(121.0 / 11.0, lab.meanValue());
        lab.run(0);
        due(115.0 / 10.0, lab.meanValue());
    }

    /** Four cells of different periods, times and needs, which read data that a failure or a wait follows. */
    private static NotebookLab busy() {
        NotebookLab lab = new NotebookLab();
        lab.addData(0, 0, 7);
        lab.addData(1, 1, 0);
        lab.addKernel(3);
        lab.addCell('+', 0, -1, 1, 2, 2, 9);
        lab.addCell('*', 2, 0, 2, 3, 3, 4);
        lab.addCell('/', 3, 1, 2, 4, 1, 2);
        lab.addCell('-', 0, -1, 2, 5, 3, 7);
        lab.run(0);
        lab.setData(0, 8);
        for (int cell = 0; cell < 4; cell++) {
            lab.schedule(cell, 4 - cell);
        }
        return lab;
    }
}
