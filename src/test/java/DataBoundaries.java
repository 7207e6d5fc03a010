/** The boundary cases of data and cells: promises 1 to 9. */
final class DataBoundaries extends Checks {
    // A new object

    @Says(promise = 1, value = "Creates a notebook without data, cells, kernels and views, at the tick 0.")
    static void newObjectIsEmpty() {
        NotebookLab lab = new NotebookLab();
        due(0, lab.cellCount());
        due(0, lab.fresh());
        due(0, lab.runAll());
        due(0, lab.tick());
        due(0L, lab.work());
        due(true, lab.isSound());
        for (int variable = 0; variable < 12; variable++) {
            refused(Rooms::empty, ELEMENT, "value", variable);
            refused(Rooms::empty, ELEMENT, "writer", variable);
            refused(Rooms::empty, ELEMENT, "setData", variable, 0);
            refused(Rooms::empty, ELEMENT, "loseData", variable);
            due(0, lab.dependents(variable));
        }
        for (String call : new String[] {"run", "state", "resultAnew", "runs", "found", "owners", "publish"}) {
            refused(Rooms::empty, INDEX, call, 0);
        }
        refused(Rooms::empty, INDEX, "free", 0);
        refused(Rooms::empty, ELEMENT, "held", 0);
        refused(Rooms::empty, ELEMENT, "isCurrent", 0);
        refused(Rooms::empty, ARITHMETIC, "load");
        refused(Rooms::empty, ARITHMETIC, "meanValue");
    }

    @Says(promise = 1, value = "Creates a notebook")
    static void newObjectsShareNothing() {
        NotebookLab one = Rooms.full();
        NotebookLab other = new NotebookLab();
        due(Lab.snapshot(Rooms.empty()), Lab.snapshot(other));
        due(1, other.addData(0, 0, 1));
        due(0, other.addKernel(1));
        due(5, one.value(0));
    }

    @Says(promise = 1,
        value = "Creates a notebook without data, cells, kernels and views, at the tick 0: it lets ticks pass")
    static void emptyLetsTicksPass() {
        NotebookLab lab = new NotebookLab();
        due(0, lab.pass(50));
        due(50, lab.tick());
        due(0, lab.runAll());
        due(true, lab.isSound());
    }

    // addData

    @Says(promise = 2, value = "variable: the variable, 0 to 11")
    static void addDataVariable() {
        NotebookLab lab = new NotebookLab();
        due(1, lab.addData(0, 1, 5));
        due(2, lab.addData(11, 1, 6));
        due(5, lab.value(0));
        due(6, lab.value(11));
        refusedOutside(0, 11, Rooms::empty, ARGUMENT, "addData", HERE, 1, 5);
        refusedOutside(0, 11, Rooms::mixed, ARGUMENT, "addData", HERE, 1, 5);
    }

    @Says(promise = 2, value = "owner: its owner, 0 to 3")
    static void addDataOwner() {
        NotebookLab lab = new NotebookLab();
        due(1, lab.addData(4, 0, 5));
        due(2, lab.addData(5, 3, 5));
        lab.addCell('+', 4, -1, 0, 0, 1, 1);
        lab.addCell('+', 5, -1, 0, 1, 1, 1);
        due(1, lab.owners(0));
        due(8, lab.owners(1));
        refusedOutside(0, 3, Rooms::mixed, ARGUMENT, "addData", 10, HERE, 5);
    }

    @Says(promise = 2, value = "value: its value, 0 to 999")
    static void addDataValue() {
        NotebookLab lab = new NotebookLab();
        due(1, lab.addData(4, 0, 0));
        due(2, lab.addData(5, 0, 999));
        due(0, lab.value(4));
        due(999, lab.value(5));
        refusedOutside(0, 999, Rooms::mixed, ARGUMENT, "addData", 10, 1, HERE);
    }

    @Says(promise = 2, value = "Returns the number of variables that are data then.")
    static void addDataUpToAllVariables() {
        NotebookLab lab = new NotebookLab();
        for (int i = 0; i < 12; i++) {
            due(i + 1, lab.addData(11 - i, i % 4, i));
        }
        for (int variable = 0; variable < 12; variable++) {
            refused(Rooms::allData, STATE, "addData", variable, 0, 0);
            refused(Rooms::allData, UNSUPPORTED, "addCell", '+', 0, -1, 0, variable, 1, 1);
            refused(Rooms::allData, ELEMENT, "writer", variable);
        }
    }

    @Says(promise = 2,
        value = "Returns the number of variables that are data then: data without a value are, what cells "
            + "write is not")
    static void addDataCountsDataAlone() {
        NotebookLab lab = Rooms.mixed();
        due(4, lab.addData(10, 0, 0));
        lab.loseData(10);
        due(5, lab.addData(11, 0, 0));
    }

    @Says(promise = 2, value = "Throws IllegalStateException if it is data or is written by a cell")
    static void addDataOfWhatIsThere() {
        for (int variable = 0; variable < 10; variable++) {
            refused(Rooms::mixed, STATE, "addData", variable, 0, 0);
        }
        for (int variable = 0; variable < 12; variable++) {
            refused(Rooms::full, STATE, "addData", variable, 0, 0);
        }
    }

    // setData

    @Says(promise = 3, value = "variable: the variable, 0 to 11")
    static void setDataVariable() {
        NotebookLab lab = Rooms.allData();
        due(0, lab.setData(0, 5));
        due(11, lab.setData(11, 6));
        due(5, lab.value(0));
        due(6, lab.value(11));
        refusedOutside(0, 11, Rooms::allData, ARGUMENT, "setData", HERE, 5);
        refusedOutside(0, 11, Rooms::empty, ARGUMENT, "setData", HERE, 5);
    }

    @Says(promise = 3, value = "value: the value, 0 to 999")
    static void setDataValue() {
        NotebookLab lab = Rooms.mixed();
        due(10, lab.setData(0, 999));
        due(999, lab.value(0));
        due(999, lab.setData(0, 0));
        due(0, lab.value(0));
        refusedOutside(0, 999, Rooms::mixed, ARGUMENT, "setData", 0, HERE);
    }

    @Says(promise = 3, value = "Returns the value before, or -1.")
    static void setDataBefore() {
        NotebookLab lab = Rooms.mixed();
        due(0, lab.setData(1, 0));
        due(0, lab.setData(1, 1));
        due(-1, lab.setData(2, 0));
        due(0, lab.setData(2, 999));
        due(999, lab.loseData(2));
        due(-1, lab.setData(2, 999));
    }

    @Says(promise = 3, value = "Throws NoSuchElementException if it is not data")
    static void setDataOfNoData() {
        for (int variable = 3; variable < 12; variable++) {
            refused(Rooms::mixed, ELEMENT, "setData", variable, 0);
        }
        for (int variable = 1; variable < 12; variable++) {
            refused(Rooms::full, ELEMENT, "setData", variable, 0);
        }
    }

    // loseData

    @Says(promise = 4, value = "variable: the variable, 0 to 11")
    static void loseDataVariable() {
        NotebookLab lab = Rooms.allData();
        due(0, lab.loseData(0));
        due(11, lab.loseData(11));
        refusedOutside(0, 11, Rooms::allData, ARGUMENT, "loseData", HERE);
        refusedOutside(0, 11, Rooms::empty, ARGUMENT, "loseData", HERE);
    }

    @Says(promise = 4, value = "Returns the value before.")
    static void loseDataBefore() {
        NotebookLab lab = Rooms.mixed();
        lab.setData(0, 999);
        due(999, lab.loseData(0));
        due(0, lab.loseData(1));
        dueAnswer("throws " + ELEMENT, lab, "value", 0);
        dueAnswer("throws " + ELEMENT, lab, "value", 1);
    }

    @Says(promise = 4, value = "Throws NoSuchElementException if it is not data")
    static void loseDataOfNoData() {
        for (int variable = 3; variable < 12; variable++) {
            refused(Rooms::mixed, ELEMENT, "loseData", variable);
        }
        for (int variable = 1; variable < 12; variable++) {
            refused(Rooms::full, ELEMENT, "loseData", variable);
        }
    }

    @Says(promise = 4, value = "Throws IllegalStateException if it has no value")
    static void loseDataTwice() {
        refused(Rooms::mixed, STATE, "loseData", 2);
        NotebookLab lab = Rooms.mixed();
        lab.setData(2, 0);
        due(0, lab.loseData(2));
        refused(lab, STATE, "loseData", 2);
    }

    @Says(promise = 4, value = "Takes the value of data away: it is data still, and what was computed from it stays")
    static void loseDataLeavesTheRest() {
        NotebookLab lab = Rooms.full();
        lab.loseData(0);
        dueAnswer("throws " + STATE, lab, "addData", 0, 0, 0);
        for (int variable = 1; variable < 12; variable++) {
            due(5 + variable, lab.value(variable));
        }
        due(0, lab.fresh());
        due(8, lab.owners(10));
        due(-1, lab.setData(0, 5));
        due(11, lab.fresh());
    }

    // addCell

    @Says(promise = 5, value = "kind: its kind, '+', '*', '-' or '/'")
    static void addCellKind() {
        NotebookLab lab = Rooms.mixed();
        lab.addData(11, 0, 9);
        due(7, lab.addCell('-', 0, -1, 3, 10, 1, 1));
        due(7, lab.resultAnew(7));
        char[] beside = {(char) 41, (char) 44, (char) 46, (char) 48, (char) 0, ' ', 'm', (char) 255, (char) 256,
            (char) ('+' + 256), (char) ('/' + 256), Character.MAX_VALUE};
        for (char kind : beside) {
            refused(Rooms::mixed, ARGUMENT, "addCell", kind, 0, -1, 0, 10, 1, 1);
        }
        int cell = 0;
        NotebookLab each = new NotebookLab();
        each.addData(0, 0, 7);
        for (char kind : new char[] {'+', '*', '-', '/'}) {
            due(cell, each.addCell(kind, 0, -1, 2, cell + 1, 1, 1));
            cell++;
        }
        due(9, each.resultAnew(0));
        due(14, each.resultAnew(1));
        due(5, each.resultAnew(2));
        due(3, each.resultAnew(3));
    }

    @Says(promise = 5, value = "first: the first variable that it reads (there are the variables 0 to 11)")
    static void addCellFirst() {
        NotebookLab lab = new NotebookLab();
        lab.addData(0, 0, 7);
        lab.addData(11, 0, 8);
        due(0, lab.addCell('+', 0, -1, 0, 1, 1, 1));
        due(1, lab.addCell('+', 11, -1, 0, 2, 1, 1));
        due(7, lab.resultAnew(0));
        due(8, lab.resultAnew(1));
        refusedOutside(0, 11, Rooms::mixed, ARGUMENT, "addCell", '+', HERE, -1, 0, 10, 1, 1);
        refusedOutside(0, 11, Rooms::mixed, ARGUMENT, "addCell", '+', HERE, 0, 0, 10, 1, 1);
    }

    @Says(promise = 5, value = "second: the second one, or -1")
    static void addCellSecond() {
        NotebookLab lab = new NotebookLab();
        lab.addData(0, 0, 7);
        lab.addData(11, 0, 8);
        due(0, lab.addCell('+', 0, -1, 0, 1, 1, 1));
        due(1, lab.addCell('+', 0, 0, 0, 2, 1, 1));
        due(2, lab.addCell('+', 0, 11, 0, 3, 1, 1));
        due(7, lab.resultAnew(0));
        due(14, lab.resultAnew(1));
        due(15, lab.resultAnew(2));
        refusedOutside(-1, 11, Rooms::mixed, ARGUMENT, "addCell", '+', 0, HERE, 0, 10, 1, 1);
    }

    @Says(promise = 5, value = "a constant from 0 to 99")
    static void addCellConstant() {
        NotebookLab lab = Rooms.mixed();
        due(7, lab.addCell('+', 0, -1, 0, 10, 1, 1));
        due(8, lab.addCell('+', 0, -1, 99, 11, 1, 1));
        due(10, lab.resultAnew(7));
        due(109, lab.resultAnew(8));
        due(0, lab.setConstant(7, 1));
        due(99, lab.setConstant(8, 1));
        refusedOutside(0, 99, Rooms::mixed, ARGUMENT, "addCell", '+', 0, -1, HERE, 10, 1, 1);
    }

    @Says(promise = 5, value = "writes: the variable that it writes (there are the variables 0 to 11)")
    static void addCellWrites() {
        NotebookLab lab = new NotebookLab();
        lab.addData(5, 0, 7);
        due(0, lab.addCell('+', 5, -1, 0, 0, 1, 1));
        due(1, lab.addCell('+', 5, -1, 0, 11, 1, 1));
        due(0, lab.writer(0));
        due(1, lab.writer(11));
        refusedOutside(0, 11, Rooms::mixed, ARGUMENT, "addCell", '+', 0, -1, 0, HERE, 1, 1);
    }

    @Says(promise = 5, value = "a need from 1 to 5")
    static void addCellNeed() {
        NotebookLab lab = Rooms.single('+', 1, -1, 0, 6, 1, 1);
        due(1, lab.addCell('+', 0, -1, 0, 3, 5, 1));
        due('r', lab.run(0));
        dueFree(lab, 5);
        due('r', lab.run(1));
        dueFree(lab, 0);
        refusedOutside(1, 5, Rooms::mixed, ARGUMENT, "addCell", '+', 0, -1, 0, 10, HERE, 1);
    }

    @Says(promise = 5, value = "a time from 1 to 9 ticks")
    static void addCellTime() {
        NotebookLab lab = Rooms.single('+', 1, -1, 0, 6, 1, 1);
        due(1, lab.addCell('+', 0, -1, 0, 3, 5, 9));
        due('r', lab.run(0));
        due('r', lab.run(1));
        due(46L, lab.work());
        refusedOutside(1, 9, Rooms::mixed, ARGUMENT, "addCell", '+', 0, -1, 0, 10, 1, HERE);
    }

    @Says(promise = {5, 7},
        value = "Cells are numbered from 0; there can be at most 11, as each one writes a variable of its "
            + "own.")
    static void addCellUpToEleven() {
        NotebookLab lab = new NotebookLab();
        lab.addData(11, 0, 1);
        due(0, lab.cellCount());
        for (int cell = 0; cell < 11; cell++) {
            due(cell, lab.addCell('+', 11, -1, 0, 10 - cell, 1, 1));
            due(cell + 1, lab.cellCount());
        }
        for (int variable = 0; variable < 12; variable++) {
            refused(Rooms::full, UNSUPPORTED, "addCell", '+', 0, -1, 0, variable, 1, 1);
            refused(Rooms::chain, UNSUPPORTED, "addCell", '+', 0, -1, 0, variable, 1, 1);
        }
        due(11, Rooms.full().cellCount());
    }

    @Says(promise = 5, value = "It can only read what is data or is written by a cell when it is added.")
    static void addCellReadsWhatIsThere() {
        NotebookLab lab = Rooms.mixed();
        // Data without a value, and what was written by a cell that failed or was not run, are there.
        due(7, lab.addCell('+', 2, 9, 0, 10, 1, 1));
        due(8, lab.addCell('+', 10, 4, 0, 11, 1, 1));
        refused(Rooms::mixed, UNSUPPORTED, "addCell", '+', 10, -1, 0, 11, 1, 1);
        refused(Rooms::mixed, UNSUPPORTED, "addCell", '+', 10, 0, 0, 11, 1, 1);
        refused(Rooms::mixed, UNSUPPORTED, "addCell", '+', 0, 10, 0, 11, 1, 1);
        refused(Rooms::mixed, UNSUPPORTED, "addCell", '+', 10, 10, 0, 11, 1, 1);
        refused(Rooms::empty, UNSUPPORTED, "addCell", '+', 0, -1, 0, 1, 1, 1);
    }

    @Says(promise = 5,
        value = "It can only read what is data or is written by a cell when it is added: not what it writes "
            + "itself")
    static void addCellDoesNotReadItself() {
        refused(Rooms::mixed, UNSUPPORTED, "addCell", '+', 10, -1, 0, 10, 1, 1);
        refused(Rooms::mixed, UNSUPPORTED, "addCell", '+', 0, 10, 0, 10, 1, 1);
        refused(Rooms::mixed, UNSUPPORTED, "addCell", '+', 0, -1, 0, 0, 1, 1);
        refused(Rooms::mixed, UNSUPPORTED, "addCell", '+', 3, 3, 0, 3, 1, 1);
    }

    @Says(promise = 5, value = "Throws UnsupportedOperationException if .. the one that it writes is one of both")
    static void addCellWritesWhatIsThere() {
        for (int variable = 0; variable < 10; variable++) {
            refused(Rooms::mixed, UNSUPPORTED, "addCell", '+', 0, -1, 0, variable, 1, 1);
        }
    }

    // setConstant

    @Says(promise = 6, value = "constant: the constant, 0 to 99")
    static void setConstantConstant() {
        NotebookLab lab = Rooms.mixed();
        due(2, lab.setConstant(0, 99));
        due(109, lab.resultAnew(0));
        due(99, lab.setConstant(0, 0));
        due(10, lab.resultAnew(0));
        due(0, lab.setConstant(0, 2));
        refusedOutside(0, 99, Rooms::mixed, ARGUMENT, "setConstant", 0, HERE);
        refusedOutside(0, 99, Rooms::full, ARGUMENT, "setConstant", 10, HERE);
    }

    @Says(promise = 6, value = "Throws IndexOutOfBoundsException if there is no such cell")
    static void setConstantCell() {
        NotebookLab lab = Rooms.full();
        due(1, lab.setConstant(0, 5));
        due(1, lab.setConstant(10, 5));
        refusedOutside(0, 10, Rooms::full, INDEX, "setConstant", HERE, 5);
        refusedOutside(0, 6, Rooms::mixed, INDEX, "setConstant", HERE, 5);
        refused(Rooms::empty, INDEX, "setConstant", 0, 5);
    }

    @Says(promise = 6, value = "Sets the constant of a cell: what was computed stays")
    static void setConstantLeavesTheValue() {
        NotebookLab lab = Rooms.full();
        lab.setConstant(0, 99);
        due(6, lab.value(1));
        due(0, lab.fresh());
        lab.setConstant(10, 99);
        lab.setConstant(0, 1);
        due(10, lab.fresh());
    }

    // value

    @Says(promise = 8, value = "variable: the variable, 0 to 11")
    static void valueVariable() {
        NotebookLab lab = Rooms.full();
        due(5, lab.value(0));
        due(16, lab.value(11));
        refusedOutside(0, 11, Rooms::full, ARGUMENT, "value", HERE);
        refusedOutside(0, 11, Rooms::empty, ARGUMENT, "value", HERE);
    }

    @Says(promise = 8, value = "Throws NoSuchElementException if it has none")
    static void valueOfWhatHasNone() {
        NotebookLab lab = Rooms.mixed();
        due(10, lab.value(0));
        due(0, lab.value(1));
        due(12, lab.value(3));
        due(10, lab.value(7));
        // Lost, of cells that failed, of one that waited, of one that was not run, and of none.
        for (int variable : new int[] {2, 4, 5, 6, 8, 9, 10, 11}) {
            refused(Rooms::mixed, ELEMENT, "value", variable);
        }
    }

    @Says(promise = {8, 10}, value = "when it fails, that variable has no value")
    static void valueAfterAFailure() {
        NotebookLab lab = Rooms.full();
        lab.loseData(0);
        due('m', lab.run(0));
        refused(lab, ELEMENT, "value", 1);
        due(7, lab.value(2));
        lab.setData(0, 0);
        due('r', lab.run(0));
        due(1, lab.value(1));
    }

    // writer

    @Says(promise = 9, value = "variable: the variable, 0 to 11")
    static void writerVariable() {
        NotebookLab lab = Rooms.full();
        due(0, lab.writer(1));
        due(10, lab.writer(11));
        refusedOutside(0, 11, Rooms::full, ARGUMENT, "writer", HERE);
        refusedOutside(0, 11, Rooms::empty, ARGUMENT, "writer", HERE);
    }

    @Says(promise = 9, value = "Throws NoSuchElementException if no cell writes it")
    static void writerOfNone() {
        for (int variable : new int[] {0, 1, 2, 10, 11}) {
            refused(Rooms::mixed, ELEMENT, "writer", variable);
        }
        refused(Rooms::full, ELEMENT, "writer", 0);
        for (int variable = 3; variable < 10; variable++) {
            due(variable - 3, Rooms.mixed().writer(variable));
        }
    }
}
