/** The boundary cases of views and of soundness: promises 32 to 35. */
final class ViewBoundaries extends Checks {
    // publish

    @Says(promise = 32, value = "Throws IndexOutOfBoundsException if there is no such cell")
    static void publishCell() {
        refusedOutside(0, 10, Rooms::full, INDEX, "publish", HERE);
        refusedOutside(0, 6, Rooms::mixed, INDEX, "publish", HERE);
        refused(Rooms::empty, INDEX, "publish", 0);
        refused(Rooms::allData, INDEX, "publish", 0);
        NotebookLab lab = Rooms.chain();
        lab.addKernel(20);
        lab.runAll();
        due(0, lab.publish(0));
        due(1, lab.publish(10));
    }

    @Says(promise = 32, value = "Throws IllegalStateException if it is not fresh")
    static void publishWhatIsNotFresh() {
        // Failed, stale, waited, not run.
        for (int cell = 1; cell < 7; cell++) {
            refused(Rooms::mixed, STATE, "publish", cell);
        }
        due(1, Rooms.mixed().publish(0));
        for (int cell = 0; cell < 11; cell++) {
            refused(Rooms::chain, STATE, "publish", cell);
        }
        // A stale one whose value is what a run would give.
        NotebookLab lab = Rooms.single('*', 1, -1, 0, 20, 1, 1);
        lab.run(0);
        lab.setData(0, 2);
        refused(lab, STATE, "publish", 0);
        lab.run(0);
        due(0, lab.publish(0));
    }

    @Says(promise = 32, value = "Throws IllegalStateException if .. there are 20 views")
    static void publishUpToTwenty() {
        NotebookLab lab = Rooms.chain();
        lab.addKernel(20);
        lab.runAll();
        for (int view = 0; view < 20; view++) {
            refused(lab, ELEMENT, "held", view);
            due(view, lab.publish(view % 11));
            due(6 + view % 11, lab.held(view));
        }
        for (int cell = 0; cell < 11; cell++) {
            refused(Rooms::full, STATE, "publish", cell);
        }
        NotebookLab full = Rooms.full();
        full.setData(0, 6);
        refused(full, STATE, "publish", 0);
        full.run(0);
        refused(full, STATE, "publish", 0);
    }

    @Says(promise = {32, 33}, value = "Publishes the value of a cell as a view: twice are two views")
    static void publishTwice() {
        NotebookLab lab = Rooms.mixed();
        due(1, lab.publish(0));
        due(2, lab.publish(0));
        due(12, lab.held(0));
        due(12, lab.held(1));
        due(12, lab.held(2));
        due(true, lab.isCurrent(1));
        due(true, lab.isCurrent(2));
    }

    // held

    @Says(promise = 33, value = "Throws NoSuchElementException if there is no such view")
    static void heldView() {
        due(6, Rooms.full().held(0));
        due(14, Rooms.full().held(19));
        refusedOutside(0, 19, Rooms::full, ELEMENT, "held", HERE);
        refusedOutside(0, 0, Rooms::mixed, ELEMENT, "held", HERE);
        refused(Rooms::empty, ELEMENT, "held", 0);
        refused(Rooms::chain, ELEMENT, "held", 0);
    }

    @Says(promise = 33, value = "A view holds the value of a fresh cell: the one that it had when it was published")
    static void heldStays() {
        NotebookLab lab = Rooms.single('+', 999, -1, 0, 20, 1, 1);
        lab.run(0);
        due(0, lab.publish(0));
        lab.setData(0, 0);
        due(999, lab.held(0));
        lab.run(0);
        due(1, lab.publish(0));
        due(999, lab.held(0));
        due(0, lab.held(1));
        lab.loseData(0);
        lab.run(0);
        due(999, lab.held(0));
        due(0, lab.held(1));
    }

    // isCurrent

    @Says(promise = 34, value = "Throws NoSuchElementException if there is no such view")
    static void isCurrentView() {
        due(true, Rooms.full().isCurrent(0));
        due(true, Rooms.full().isCurrent(19));
        refusedOutside(0, 19, Rooms::full, ELEMENT, "isCurrent", HERE);
        refusedOutside(0, 0, Rooms::mixed, ELEMENT, "isCurrent", HERE);
        refused(Rooms::empty, ELEMENT, "isCurrent", 0);
        refused(Rooms::chain, ELEMENT, "isCurrent", 0);
    }

    @Says(promise = 34, value = "It is current if the cell is fresh")
    static void currentIfFresh() {
        NotebookLab lab = Rooms.full();
        for (int cell = 0; cell < 11; cell++) {
            lab.setConstant(cell, 0);
            for (int view = 0; view < 20; view++) {
                due(view % 11 < cell, lab.isCurrent(view));
            }
            lab.setConstant(cell, 1);
        }
        lab.loseData(0);
        due(false, lab.isCurrent(0));
        lab.run(0);
        due(false, lab.isCurrent(0));
        due(false, lab.isCurrent(1));
        lab.setData(0, 5);
        due(false, lab.isCurrent(0));
        lab.run(0);
        due(true, lab.isCurrent(0));
        due(true, lab.isCurrent(1));
    }

    @Says(promise = 34, value = "It is current if the cell .. has this value")
    static void currentIfItHasTheValue() {
        NotebookLab lab = Rooms.single('/', 999, -1, 10, 20, 1, 1);
        lab.run(0);
        lab.publish(0);
        lab.setData(0, 0);
        lab.run(0);
        lab.publish(0);
        due('f', lab.state(0));
        due(false, lab.isCurrent(0));
        due(true, lab.isCurrent(1));
        // The same value from other data is this value too, at both of its edges.
        for (int value : new int[] {9, 10, 989, 990, 998}) {
            lab.setData(0, value);
            due(false, lab.isCurrent(0));
            due(false, lab.isCurrent(1));
            lab.run(0);
            due(value >= 990, lab.isCurrent(0));
            due(value < 10, lab.isCurrent(1));
        }
    }

    @Says(promise = 34, value = "It is current if the cell is fresh and has this value: a stale one that has it is not")
    static void staleIsNotCurrent() {
        NotebookLab lab = Rooms.single('*', 5, -1, 0, 20, 1, 1);
        lab.run(0);
        lab.publish(0);
        lab.setData(0, 6);
        due(0, lab.value(2));
        due(false, lab.isCurrent(0));
        due('r', lab.run(0));
        due(true, lab.isCurrent(0));
    }

    // isSound

    @Says(promise = 35, value = "Returns whether all is sound")
    static void soundWhereverItIsAsked() {
        due(true, Rooms.empty().isSound());
        due(true, Rooms.allData().isSound());
        due(true, Rooms.chain().isSound());
        due(true, Rooms.mixed().isSound());
        due(true, Rooms.full().isSound());
        due(true, Rooms.last().isSound());
    }

    @Says(promise = 35,
        value = "the variable that a fresh cell writes has the result that the cell would have if all cells "
            + "were run in order")
    static void soundByFreshCells() {
        NotebookLab lab = Rooms.full();
        for (int value : new int[] {0, 988, 989, 999}) {
            lab.setData(0, value);
            due(true, lab.isSound());
            lab.run(5);
            due(true, lab.isSound());
            lab.run(0);
            lab.run(1);
            due(true, lab.isSound());
            lab.runAll();
            due(true, lab.isSound());
            due((value + 11) % 1000, lab.value(11));
            lab.pass(9);
        }
        lab.loseData(0);
        due(true, lab.isSound());
        lab.runAll();
        due(true, lab.isSound());
    }

    @Says(promise = 35, value = "no kernel is given more than its room")
    static void soundByFullKernels() {
        NotebookLab lab = Rooms.single('+', 0, -1, 0, 1, 1, 9);
        lab.addCell('+', 0, -1, 0, 3, 5, 9);
        lab.addKernel(5);
        lab.addKernel(20);
        for (int value = 0; value < 30; value++) {
            lab.setData(0, value);
            lab.runAll();
            due(true, lab.isSound());
            for (int kernel = 0; kernel < 3; kernel++) {
                due(true, lab.free(kernel) >= 0);
            }
        }
        due(0, lab.free(0));
        due(0, lab.free(1));
        due(0, lab.free(2));
    }

    @Says(promise = 35, value = "and no failure is among its own causes")
    static void soundByFailures() {
        NotebookLab lab = Rooms.full();
        for (int round = 0; round < 12; round++) {
            lab.loseData(0);
            for (int cell = 0; cell < 11; cell++) {
                lab.run(round % 2 == 0 ? cell : 10 - cell);
                due(true, lab.isSound());
            }
            lab.setData(0, round);
            lab.run(round % 11);
            due(true, lab.isSound());
        }
    }
}
