/** The boundary cases of lineage: promises 21 to 23. */
final class LineageBoundaries extends Checks {
    @Says(promise = 21, value = "Throws IndexOutOfBoundsException if there is no such cell")
    static void dependsCell() {
        due(true, Rooms.full().depends(0, 0));
        due(true, Rooms.full().depends(10, 0));
        refusedOutside(0, 10, Rooms::full, INDEX, "depends", HERE, 0);
        refusedOutside(0, 6, Rooms::mixed, INDEX, "depends", HERE, 0);
        refused(Rooms::empty, INDEX, "depends", 0, 0);
        refused(Rooms::allData, INDEX, "depends", 0, 0);
    }

    @Says(promise = 21, value = "variable: the variable, 0 to 11")
    static void dependsVariable() {
        due(true, Rooms.mixed().depends(0, 0));
        due(false, Rooms.mixed().depends(0, 11));
        refusedOutside(0, 11, Rooms::full, ARGUMENT, "depends", 10, HERE);
        refusedOutside(0, 11, Rooms::mixed, ARGUMENT, "depends", 0, HERE);
    }

    @Says(promise = 21, value = "whether it reads it, or reads what is written by a cell that depends on it")
    static void dependsThroughCells() {
        NotebookLab lab = Rooms.chain();
        for (int cell = 0; cell < 11; cell++) {
            for (int variable = 0; variable < 12; variable++) {
                // Not on what it writes itself, nor on what is written behind it.
                due(variable <= cell, lab.depends(cell, variable));
            }
        }
    }

    @Says(promise = 21, value = "whether it reads it: as the first one, as the second one, or not at all")
    static void dependsOnBoth() {
        NotebookLab lab = Rooms.mixed();
        boolean[][] due = {{true, false, false, false}, {true, true, false, false}, {true, false, true, true},
            {true, true, false, false}};
        for (int cell = 0; cell < 4; cell++) {
            for (int variable = 0; variable < 4; variable++) {
                due(due[cell][variable], lab.depends(cell, variable));
            }
        }
        due(true, lab.depends(3, 4));
        due(false, lab.depends(2, 4));
        for (int cell = 0; cell < 7; cell++) {
            due(false, lab.depends(cell, 10));
        }
    }

    @Says(promise = 22, value = "Returns the sum of 2 to the power of the number of each of these owners.")
    static void ownersSum() {
        int[] due = {1, 2, 4, 8};
        for (int owner = 0; owner < 4; owner++) {
            NotebookLab one = Rooms.allDataButThree();
            one.addCell('+', owner, -1, 0, 9, 1, 1);
            due(due[owner], one.owners(0));
        }
        NotebookLab lab = Rooms.allDataButThree();
        lab.addCell('+', 0, 1, 0, 9, 1, 1);
        lab.addCell('+', 2, 3, 0, 10, 1, 1);
        lab.addCell('+', 9, 10, 0, 11, 1, 1);
        due(3, lab.owners(0));
        due(12, lab.owners(1));
        due(15, lab.owners(2));
    }

    @Says(promise = 22, value = "of each of these owners: two data of one owner count once")
    static void ownersCountOnce() {
        NotebookLab lab = Rooms.allDataButThree();
        lab.addCell('+', 0, 4, 0, 9, 1, 1);
        lab.addCell('+', 3, 7, 0, 10, 1, 1);
        lab.addCell('+', 9, 10, 0, 11, 1, 1);
        due(1, lab.owners(0));
        due(8, lab.owners(1));
        due(9, lab.owners(2));
        due(8, Rooms.full().owners(0));
        due(8, Rooms.full().owners(10));
    }

    @Says(promise = 22,
        value = "Returns the owners of the data on which a cell depends: data without a value have one too")
    static void ownersOfLostData() {
        NotebookLab lab = Rooms.mixed();
        int[] due = {2, 6, 10, 6, 2, 2, 2};
        for (int cell = 0; cell < 7; cell++) {
            due(due[cell], lab.owners(cell));
        }
        lab.loseData(0);
        due(2, lab.owners(0));
    }

    @Says(promise = 22, value = "Throws IndexOutOfBoundsException if there is no such cell")
    static void ownersCell() {
        refusedOutside(0, 10, Rooms::full, INDEX, "owners", HERE);
        refusedOutside(0, 6, Rooms::mixed, INDEX, "owners", HERE);
        refused(Rooms::empty, INDEX, "owners", 0);
        refused(Rooms::allData, INDEX, "owners", 0);
    }

    @Says(promise = 23, value = "variable: the variable, 0 to 11")
    static void dependentsVariable() {
        due(11, Rooms.full().dependents(0));
        due(0, Rooms.full().dependents(11));
        refusedOutside(0, 11, Rooms::full, ARGUMENT, "dependents", HERE);
        refusedOutside(0, 11, Rooms::empty, ARGUMENT, "dependents", HERE);
    }

    @Says(promise = 23, value = "Returns how many cells depend on a variable.")
    static void dependentsCount() {
        NotebookLab chain = Rooms.chain();
        int[] ofMixed = {7, 2, 1, 2, 1, 0, 0, 0, 0, 0, 0, 0};
        for (int variable = 0; variable < 12; variable++) {
            due(11 - variable, chain.dependents(variable));
            due(ofMixed[variable], Rooms.mixed().dependents(variable));
            due(0, Rooms.empty().dependents(variable));
            due(0, Rooms.allData().dependents(variable));
        }
        // A cell that reads a variable twice, and by a cell too, is one cell.
        NotebookLab lab = Rooms.mixed();
        lab.addCell('+', 2, 2, 0, 10, 1, 1);
        due(2, lab.dependents(2));
        lab.addCell('+', 2, 10, 0, 11, 1, 1);
        due(3, lab.dependents(2));
    }
}
