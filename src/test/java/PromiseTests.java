import java.util.Arrays;

/**
 * For each promise of the document: ordinary inputs, the edges that it names, and wrong inputs. A call that throws is
 * looked at from both sides: nothing that can be asked has changed.
 */
public final class PromiseTests extends Checks {
    public static void main(String[] args) {
        newObject();
        addData();
        setData();
        loseData();
        addCell();
        addCellUpToEleven();
        setConstant();
        cellCountAndWriter();
        value();
        results();
        divisionByZero();
        run();
        runKeepsFour();
        runOfFailedCell();
        runAll();
        state();
        stateOfChains();
        resultAnew();
        fresh();
        runsAndFound();
        failure();
        rootAndCauses();
        causeAsItWasThen();
        depends();
        owners();
        dependents();
        addKernel();
        free();
        kernelChoice();
        schedule();
        pass();
        passOrder();
        tick();
        work();
        load();
        meanValue();
        publish();
        held();
        isCurrent();
        isSound();
        end("all promises are kept");
    }

    private static void newObject() {
        about("promise 1: A new object");
        NotebookLab lab = new NotebookLab();
        due(0, lab.cellCount());
        due(0, lab.tick());
        due(0L, lab.work());
        due(0, lab.fresh());
        due(0, lab.runAll());
        due(true, lab.isSound());
        refused(lab, INDEX, "run", 0);
        refused(lab, INDEX, "free", 0);
        refused(lab, ELEMENT, "held", 0);
        refused(lab, ARITHMETIC, "load");
        refused(lab, ARITHMETIC, "meanValue");
        for (int variable = 0; variable < 12; variable++) {
            refused(lab, ELEMENT, "value", variable);
            refused(lab, ELEMENT, "setData", variable, 1);
            refused(lab, ELEMENT, "writer", variable);
            due(0, lab.dependents(variable));
        }
        NotebookLab other = new NotebookLab();
        other.addData(0, 0, 5);
        refused(lab, ELEMENT, "value", 0);
    }

    private static void addData() {
        about("promise 2: addData");
        NotebookLab lab = new NotebookLab();
        due(1, lab.addData(0, 0, 0));
        due(2, lab.addData(11, 3, 999));
        due(3, lab.addData(5, 1, 7));
        due(0, lab.value(0));
        due(999, lab.value(11));
        due(7, lab.value(5));
        lab.addCell('+', 0, -1, 0, 6, 1, 1);
        for (int variable : with(FAR, -1, 12)) {
            refused(lab, ARGUMENT, "addData", variable, 0, 0);
        }
        for (int owner : with(FAR, -1, 4)) {
            refused(lab, ARGUMENT, "addData", 1, owner, 0);
            refused(lab, ARGUMENT, "addData", 0, owner, 0);
        }
        for (int value : with(FAR, -1, 1000)) {
            refused(lab, ARGUMENT, "addData", 1, 0, value);
            refused(lab, ARGUMENT, "addData", 6, 0, value);
        }
        refused(lab, STATE, "addData", 0, 0, 0);
        refused(lab, STATE, "addData", 6, 0, 0);
        lab.loseData(0);
        refused(lab, STATE, "addData", 0, 0, 0);
        due(4, lab.addData(1, 2, 3));
    }

    private static void setData() {
        about("promise 3: setData");
        NotebookLab lab = new NotebookLab();
        lab.addData(3, 1, 8);
        lab.addCell('+', 3, -1, 0, 4, 1, 1);
        due(8, lab.setData(3, 0));
        due(0, lab.setData(3, 999));
        due(999, lab.value(3));
        due(999, lab.loseData(3));
        due(-1, lab.setData(3, 5));
        due(5, lab.value(3));
        for (int variable : with(FAR, -1, 12)) {
            refused(lab, ARGUMENT, "setData", variable, 0);
        }
        for (int value : with(FAR, -1, 1000)) {
            refused(lab, ARGUMENT, "setData", 3, value);
            refused(lab, ARGUMENT, "setData", 0, value);
        }
        refused(lab, ELEMENT, "setData", 0, 5);
        refused(lab, ELEMENT, "setData", 4, 5);
    }

    private static void loseData() {
        about("promise 4: loseData");
        NotebookLab lab = new NotebookLab();
        lab.addData(3, 1, 8);
        lab.addKernel(1);
        lab.addCell('+', 3, -1, 0, 4, 1, 1);
        lab.run(0);
        for (int variable : with(FAR, -1, 12)) {
            refused(lab, ARGUMENT, "loseData", variable);
        }
        refused(lab, ELEMENT, "loseData", 0);
        refused(lab, ELEMENT, "loseData", 4);
        due(8, lab.loseData(3));
        refused(lab, ELEMENT, "value", 3);
        refused(lab, STATE, "loseData", 3);
        due(8, lab.value(4));
        // It is data still: a cell may read it.
        due(1, lab.addCell('+', 3, -1, 0, 5, 1, 1));
    }

    private static void addCell() {
        about("promise 5: addCell");
        NotebookLab lab = new NotebookLab();
        lab.addData(0, 0, 6);
        lab.addData(11, 0, 7);
        due(0, lab.addCell('+', 0, -1, 0, 1, 1, 1));
        due(1, lab.addCell('*', 0, 11, 99, 2, 5, 9));
        due(2, lab.addCell('-', 1, 2, 1, 3, 1, 1));
        due(3, lab.addCell('/', 11, 0, 1, 10, 1, 1));
        due(4, lab.addCell('+', 0, 0, 1, 9, 1, 1));
        char plus = '+';
        for (char kind : new char[] {0, 'x', '%', ',', '.', 255, 0xFFFF, '+' + 256}) {
            refused(lab, ARGUMENT, "addCell", kind, 0, -1, 0, 4, 1, 1);
        }
        for (int number : with(FAR, -1, 12)) {
            refused(lab, ARGUMENT, "addCell", plus, number, -1, 0, 4, 1, 1);
            refused(lab, ARGUMENT, "addCell", plus, 0, -1, 0, number, 1, 1);
        }
        for (int number : with(FAR, -2, 12)) {
            refused(lab, ARGUMENT, "addCell", plus, 0, number, 0, 4, 1, 1);
        }
        for (int number : with(FAR, -1, 100)) {
            refused(lab, ARGUMENT, "addCell", plus, 0, -1, number, 4, 1, 1);
        }
        for (int number : with(FAR, 0, 6)) {
            refused(lab, ARGUMENT, "addCell", plus, 0, -1, 0, 4, number, 1);
        }
        for (int number : with(FAR, 0, 10)) {
            refused(lab, ARGUMENT, "addCell", plus, 0, -1, 0, 4, 1, number);
            // Both would apply: the one that is documented first is thrown.
            refused(lab, ARGUMENT, "addCell", plus, 5, 6, 0, 0, 1, number);
        }
        refused(lab, UNSUPPORTED, "addCell", plus, 5, -1, 0, 4, 1, 1);
        refused(lab, UNSUPPORTED, "addCell", plus, 0, 5, 0, 4, 1, 1);
        refused(lab, UNSUPPORTED, "addCell", plus, 4, -1, 0, 4, 1, 1);
        refused(lab, UNSUPPORTED, "addCell", plus, 0, 4, 0, 4, 1, 1);
        refused(lab, UNSUPPORTED, "addCell", plus, 0, -1, 0, 0, 1, 1);
        refused(lab, UNSUPPORTED, "addCell", plus, 0, -1, 0, 11, 1, 1);
        refused(lab, UNSUPPORTED, "addCell", plus, 0, -1, 0, 3, 1, 1);
        due(5, lab.cellCount());
    }

    private static void addCellUpToEleven() {
        about("promise 5: addCell, up to 11");
        NotebookLab lab = new NotebookLab();
        lab.addData(0, 2, 1);
        lab.addKernel(20);
        for (int i = 0; i < 11; i++) {
            due(i, lab.addCell('+', i, i, 1, i + 1, 1, 1));
        }
        due(11, lab.cellCount());
        due(11, lab.runAll());
        // 1, then twice the one before and 1: 3, 7, 15 and so on.
        due(4095 % 1000, lab.value(11));
        due(true, lab.depends(10, 0));
        due(11, lab.dependents(0));
        due(11, lab.fresh());
        due(4095 % 1000, lab.resultAnew(10));
        due(0, lab.pass(1));
        due(true, lab.isSound());
        for (int variable = 0; variable < 12; variable++) {
            refused(lab, UNSUPPORTED, "addCell", '+', 0, -1, 0, variable, 1, 1);
            refused(lab, STATE, "addData", variable, 0, 0);
        }
    }

    private static void setConstant() {
        about("promise 6: setConstant");
        NotebookLab lab = small();
        due(2, lab.setConstant(0, 99));
        due(99, lab.setConstant(0, 0));
        due('r', lab.run(0));
        due(10, lab.value(1));
        for (int cell : with(FAR, -1, 2)) {
            refused(lab, INDEX, "setConstant", cell, 5);
            refused(lab, INDEX, "setConstant", cell, 100);
        }
        for (int constant : with(FAR, -1, 100)) {
            refused(lab, ARGUMENT, "setConstant", 0, constant);
        }
        due(0, lab.setConstant(0, 1));
        due(10, lab.value(1));
    }

    private static void cellCountAndWriter() {
        about("promise 7 and 9: cellCount, writer");
        NotebookLab lab = small();
        due(2, lab.cellCount());
        due(0, lab.writer(1));
        due(1, lab.writer(2));
        refused(lab, ELEMENT, "writer", 0);
        refused(lab, ELEMENT, "writer", 3);
        for (int variable : with(FAR, -1, 12)) {
            refused(lab, ARGUMENT, "writer", variable);
        }
        lab.addCell('+', 0, -1, 0, 11, 1, 1);
        due(2, lab.writer(11));
        due(3, lab.cellCount());
    }

    private static void value() {
        about("promise 8: value");
        NotebookLab lab = small();
        due(10, lab.value(0));
        refused(lab, ELEMENT, "value", 1);
        refused(lab, ELEMENT, "value", 7);
        lab.run(0);
        due(12, lab.value(1));
        lab.loseData(0);
        due(12, lab.value(1));
        due('m', lab.run(0));
        refused(lab, ELEMENT, "value", 1);
        for (int variable : with(FAR, -1, 12)) {
            refused(lab, ARGUMENT, "value", variable);
        }
    }

    private static void results() {
        about("promise 10: run, the results by kind");
        due(999 + 999 + 99 - 2000, result('+', 999, 999, 99));
        due(98, result('+', 999, -1, 99));
        due(0, result('+', 0, 0, 0));
        due(999 * 999 * 99 % 1000, result('*', 999, 999, 99));
        due(999 * 99 % 1000, result('*', 999, -1, 99));
        due(42, result('*', 2, 3, 7));
        due(0, result('*', 2, 3, 0));
        due(4, result('-', 3, 7, 50));
        due(4, result('-', 7, 3, 50));
        due(999, result('-', 0, 999, 0));
        due(43, result('-', 7, -1, 50));
        due(5, result('-', 55, -1, 50));
        due(3, result('/', 7, 2, 0));
        due(0, result('/', 2, 7, 1));
        due(999, result('/', 999, 1, 0));
        due(10, result('/', 999, -1, 99));
    }

    private static void divisionByZero() {
        about("promise 10: run, division by 0");
        NotebookLab lab = new NotebookLab();
        lab.addData(0, 0, 5);
        lab.addData(1, 0, 0);
        lab.addCell('/', 0, -1, 0, 2, 1, 1);
        lab.addCell('/', 0, 1, 3, 3, 1, 1);
        lab.addCell('/', 1, 0, 0, 4, 1, 1);
        due('z', lab.run(0));
        due('z', lab.run(1));
        due('w', lab.run(2));
        due('n', lab.state(2));
        lab.addKernel(3);
        lab.setConstant(0, 1);
        lab.setData(1, 1);
        due('r', lab.run(0));
        due('r', lab.run(1));
        due('r', lab.run(2));
        lab.setConstant(0, 0);
        due('z', lab.run(0));
        refused(lab, ELEMENT, "value", 2);
        lab.loseData(1);
        due('m', lab.run(1));
        // Nothing read: 'm' comes ahead of 'z'.
        lab.loseData(0);
        due('m', lab.run(0));
    }

    private static void run() {
        about("promise 10: run");
        NotebookLab lab = new NotebookLab();
        lab.addData(0, 0, 10);
        lab.addCell('+', 0, -1, 2, 1, 3, 2);
        due('w', lab.run(0));
        refused(lab, ELEMENT, "value", 1);
        lab.addKernel(2);
        due('w', lab.run(0));
        lab.addKernel(3);
        due('r', lab.run(0));
        due(12, lab.value(1));
        due('h', lab.run(0));
        lab.setData(0, 20);
        due('w', lab.run(0));
        due(12, lab.value(1));
        due('s', lab.state(0));
        lab.pass(1);
        due('w', lab.run(0));
        lab.pass(1);
        due('r', lab.run(0));
        due(22, lab.value(1));
        lab.setData(0, 10);
        due('h', lab.run(0));
        due(12, lab.value(1));
        lab.setConstant(0, 3);
        due('w', lab.run(0));
        lab.setConstant(0, 2);
        for (int cell : with(FAR, -1, 1)) {
            refused(lab, INDEX, "run", cell);
        }
    }

    private static void runKeepsFour() {
        about("promise 10: run, the 4 results that were computed last");
        NotebookLab lab = new NotebookLab();
        lab.addData(0, 0, 0);
        lab.addKernel(20);
        lab.addCell('+', 0, -1, 0, 1, 1, 1);
        for (int value = 0; value < 4; value++) {
            due('r', runWith(lab, value));
        }
        // Found again, the result of 0 stays the oldest one.
        due('h', runWith(lab, 0));
        due('h', runWith(lab, 3));
        due('r', runWith(lab, 4));
        for (int value = 4; value > 0; value--) {
            due('h', runWith(lab, value));
            due(value, lab.value(1));
        }
        due('r', runWith(lab, 0));
        due('r', runWith(lab, 1));
        due('h', runWith(lab, 3));
        due('r', runWith(lab, 2));
        due(8, lab.runs(0));
        // What was read and the constant both count, and both places of what was read.
        lab.addData(2, 0, 1);
        lab.addCell('-', 0, 2, 5, 3, 1, 1);
        lab.setData(0, 1);
        lab.setData(2, 2);
        due('r', lab.run(1));
        lab.setConstant(1, 6);
        due('r', lab.run(1));
        lab.setData(0, 2);
        lab.setData(2, 1);
        due('r', lab.run(1));
        // The results of one cell are not those of another one.
        lab.addCell('-', 0, 2, 6, 4, 1, 1);
        due('r', lab.run(2));
    }

    private static void runOfFailedCell() {
        about("promise 10: run, after a failure");
        NotebookLab lab = small();
        due('r', lab.run(0));
        lab.loseData(0);
        due('m', lab.run(0));
        lab.setData(0, 10);
        due('x', lab.state(0));
        due('h', lab.run(0));
        due('f', lab.state(0));
        due(12, lab.value(1));
        lab.loseData(0);
        lab.run(0);
        lab.setData(0, 11);
        lab.setConstant(0, 9);
        due('r', lab.run(0));
        due('r', lab.run(1));
        lab.loseData(0);
        lab.run(0);
        lab.setData(0, 500);
        due('w', lab.run(0));
        due('x', lab.state(0));
        due('m', lab.failure(0));
        refused(lab, ELEMENT, "value", 1);
    }

    private static void runAll() {
        about("promise 11: runAll");
        NotebookLab lab = small();
        due(2, lab.runAll());
        due(24, lab.value(2));
        due(1, lab.runs(0));
        due(2, lab.runAll());
        due(1, lab.runs(0));
        due(0, lab.found(0));
        lab.setData(0, 20);
        due(0, lab.fresh());
        // The room of 3 is held by the two runs of needs 1 and 1, so one more has room.
        due(1, lab.runAll());
        due(22, lab.value(1));
        due(24, lab.value(2));
        due('s', lab.state(1));
        due(2, lab.runs(0));
        lab.setData(0, 10);
        due(2, lab.runAll());
        due(1, lab.found(0));
        // Cell 0 was run first, so cell 1 was fresh when its turn came.
        due(0, lab.found(1));
        lab.loseData(0);
        due(0, lab.runAll());
        due('x', lab.state(0));
        due('x', lab.state(1));
        due(0, new NotebookLab().runAll());
    }

    private static void state() {
        about("promise 12: state");
        NotebookLab lab = small();
        due('n', lab.state(0));
        lab.run(0);
        due('f', lab.state(0));
        due('n', lab.state(1));
        lab.setConstant(0, 3);
        due('s', lab.state(0));
        lab.setConstant(0, 2);
        due('f', lab.state(0));
        lab.setData(0, 11);
        due('s', lab.state(0));
        lab.loseData(0);
        due('s', lab.state(0));
        lab.setData(0, 10);
        due('f', lab.state(0));
        lab.loseData(0);
        lab.run(0);
        due('x', lab.state(0));
        lab.setData(0, 10);
        due('x', lab.state(0));
        for (int cell : with(FAR, -1, 2)) {
            refused(lab, INDEX, "state", cell);
        }
        NotebookLab waiting = new NotebookLab();
        waiting.addData(0, 0, 1);
        waiting.addCell('+', 0, 0, 0, 1, 1, 1);
        due('w', waiting.run(0));
        due('n', waiting.state(0));
        waiting.loseData(0);
        due('m', waiting.run(0));
        due('x', waiting.state(0));
    }

    private static void stateOfChains() {
        about("promise 12: state, of what cells write");
        NotebookLab lab = new NotebookLab();
        lab.addData(0, 0, 7);
        lab.addData(1, 0, 2);
        lab.addKernel(20);
        lab.addCell('/', 0, -1, 5, 2, 1, 1);
        lab.addCell('+', 1, 2, 0, 3, 1, 1);
        lab.addCell('+', 3, -1, 0, 4, 1, 1);
        due(3, lab.runAll());
        // 8 / 5 is 1 too, but the writer is stale; run, it has the value that was there, and all are fresh.
        lab.setData(0, 8);
        due('s', lab.state(0));
        due('s', lab.state(1));
        due('s', lab.state(2));
        due('r', lab.run(0));
        due('f', lab.state(1));
        due('f', lab.state(2));
        due(1, lab.runs(1));
        // Run with a stale writer, a cell is stale at once.
        lab.setData(0, 50);
        due('h', lab.run(1));
        due('s', lab.state(1));
        lab.setData(0, 8);
        due('f', lab.state(2));
        lab.setData(1, 3);
        due('f', lab.state(0));
        due('s', lab.state(1));
        due('r', lab.run(1));
        due('f', lab.state(1));
        due('s', lab.state(2));
    }

    private static void resultAnew() {
        about("promise 13: resultAnew");
        NotebookLab lab = new NotebookLab();
        lab.addData(0, 0, 7);
        lab.addCell('+', 0, -1, 3, 1, 1, 1);
        lab.addCell('/', 1, 0, 3, 2, 1, 1);
        lab.addCell('*', 2, 1, 5, 3, 1, 1);
        due(10, lab.resultAnew(0));
        due(1, lab.resultAnew(1));
        due(50, lab.resultAnew(2));
        due('n', lab.state(2));
        refused(lab, ELEMENT, "value", 1);
        lab.setData(0, 0);
        due(3, lab.resultAnew(0));
        refused(lab, UNSUPPORTED, "resultAnew", 1);
        refused(lab, UNSUPPORTED, "resultAnew", 2);
        lab.addKernel(20);
        lab.setData(0, 7);
        due(3, lab.runAll());
        lab.setData(0, 1);
        lab.setConstant(2, 2);
        due(4, lab.resultAnew(0));
        due(4, lab.resultAnew(1));
        due(32, lab.resultAnew(2));
        due(50, lab.value(3));
        lab.loseData(0);
        refused(lab, UNSUPPORTED, "resultAnew", 0);
        for (int cell : with(FAR, -1, 3)) {
            refused(lab, INDEX, "resultAnew", cell);
        }
    }

    private static void fresh() {
        about("promise 14: fresh");
        NotebookLab lab = small();
        due(0, lab.fresh());
        lab.run(0);
        due(1, lab.fresh());
        lab.run(1);
        due(2, lab.fresh());
        lab.setConstant(1, 7);
        due(1, lab.fresh());
        lab.setConstant(0, 7);
        lab.setConstant(1, 2);
        due(0, lab.fresh());
        lab.setConstant(0, 2);
        due(2, lab.fresh());
    }

    private static void runsAndFound() {
        about("promise 15 and 16: runs, found");
        NotebookLab lab = small();
        due(0, lab.runs(0));
        due(0, lab.found(0));
        lab.run(0);
        due(1, lab.runs(0));
        due(0, lab.found(0));
        lab.run(0);
        lab.run(0);
        due(1, lab.runs(0));
        due(2, lab.found(0));
        lab.loseData(0);
        lab.run(0);
        due(1, lab.runs(0));
        due(2, lab.found(0));
        lab.setData(0, 11);
        lab.run(0);
        lab.setData(0, 12);
        lab.run(0);
        lab.setData(0, 13);
        due('w', lab.run(0));
        due(3, lab.runs(0));
        due(2, lab.found(0));
        due(0, lab.runs(1));
        due(0, lab.found(1));
        for (int cell : with(FAR, -1, 2)) {
            refused(lab, INDEX, "runs", cell);
            refused(lab, INDEX, "found", cell);
        }
    }

    private static void failure() {
        about("promise 17: failure");
        NotebookLab lab = new NotebookLab();
        lab.addData(0, 0, 7);
        lab.addData(1, 0, 0);
        lab.addKernel(20);
        lab.addCell('/', 0, 1, 3, 2, 1, 1);
        for (String call : Arrays.asList("failure", "root", "rootFailure", "causes")) {
            refused(lab, STATE, call, 0);
            for (int cell : with(FAR, -1, 1)) {
                refused(lab, INDEX, call, cell);
            }
        }
        lab.run(0);
        due('z', lab.failure(0));
        lab.loseData(0);
        due('z', lab.failure(0));
        lab.run(0);
        due('m', lab.failure(0));
        lab.setData(0, 7);
        lab.setData(1, 7);
        due('m', lab.failure(0));
        lab.run(0);
        for (String call : Arrays.asList("failure", "root", "rootFailure", "causes")) {
            refused(lab, STATE, call, 0);
        }
        lab.setConstant(0, 4);
        due('s', lab.state(0));
        refused(lab, STATE, "failure", 0);
    }

    private static void rootAndCauses() {
        about("promise 18 to 20: root, rootFailure, causes");
        NotebookLab lab = new NotebookLab();
        lab.addData(0, 0, 7);
        lab.addCell('/', 0, -1, 0, 1, 1, 1);
        lab.addCell('+', 1, -1, 0, 2, 1, 1);
        lab.addCell('+', 0, 2, 0, 3, 1, 1);
        lab.addCell('+', 3, 1, 0, 4, 1, 1);
        lab.addCell('+', 1, 3, 0, 5, 1, 1);
        // Cell 0 has not run, so what it does not give has no cause.
        due('m', lab.run(1));
        due(1, lab.root(1));
        due('m', lab.rootFailure(1));
        due(0, lab.causes(1));
        lab.runAll();
        due(0, lab.root(0));
        due('z', lab.rootFailure(0));
        due(0, lab.causes(0));
        due(0, lab.root(1));
        due('m', lab.failure(1));
        due('z', lab.rootFailure(1));
        due(1, lab.causes(1));
        due('m', lab.failure(2));
        due(2, lab.causes(2));
        due(0, lab.root(2));
        // The first variable without a value is the reason: 3, not 1.
        due(3, lab.causes(3));
        due(0, lab.root(3));
        due(1, lab.causes(4));
        // A cell that failed by a division fails by what is missing, with a cause.
        lab.addCell('/', 1, -1, 0, 6, 1, 1);
        lab.setConstant(0, 1);
        lab.addKernel(1);
        due('r', lab.run(0));
        due('z', lab.run(5));
        due('z', lab.failure(5));
        lab.setConstant(0, 0);
        due('z', lab.run(0));
        due('m', lab.run(5));
        due('m', lab.failure(5));
        due('z', lab.rootFailure(5));
        due(0, lab.root(5));
        // Data without a value have no cell that could be the cause.
        lab.loseData(0);
        lab.run(2);
        due(2, lab.root(2));
        due('m', lab.rootFailure(2));
        due(0, lab.causes(2));
    }

    private static void causeAsItWasThen() {
        about("promise 18 to 20: the last failure of that cell, as it is then");
        NotebookLab lab = new NotebookLab();
        lab.addData(0, 0, 7);
        lab.addKernel(20);
        lab.addCell('/', 0, -1, 0, 1, 1, 1);
        lab.addCell('+', 1, -1, 0, 2, 1, 1);
        lab.addCell('+', 2, -1, 0, 3, 1, 1);
        lab.runAll();
        due('z', lab.rootFailure(2));
        due(2, lab.causes(2));
        // New failures of the causes leave what was told before.
        lab.loseData(0);
        lab.run(0);
        due('m', lab.rootFailure(0));
        due('z', lab.rootFailure(1));
        due('z', lab.rootFailure(2));
        due('m', lab.run(1));
        due('m', lab.rootFailure(1));
        due('z', lab.rootFailure(2));
        // So does a run of the cause that succeeds.
        lab.setData(0, 7);
        lab.setConstant(0, 1);
        due('r', lab.run(0));
        due(0, lab.root(2));
        due(2, lab.causes(2));
        due('m', lab.run(2));
        due(0, lab.root(2));
        due('m', lab.rootFailure(2));
        due(2, lab.causes(2));
        due('r', lab.run(1));
        due(0, lab.root(2));
        due('r', lab.run(2));
    }

    private static void depends() {
        about("promise 21: depends");
        NotebookLab lab = lineage();
        boolean[][] due = {{true, false, false, false, false, false}, {false, true, false, false, false, false},
            {true, false, false, true, false, false}, {true, true, false, true, true, false}};
        for (int cell = 0; cell < 4; cell++) {
            for (int variable = 0; variable < 6; variable++) {
                due(due[cell][variable], lab.depends(cell, variable));
            }
            for (int variable = 6; variable < 12; variable++) {
                due(cell == 3 && variable == 6, lab.depends(cell, variable));
            }
            for (int variable : with(FAR, -1, 12)) {
                refused(lab, ARGUMENT, "depends", cell, variable);
            }
        }
        for (int cell : with(FAR, -1, 4)) {
            refused(lab, INDEX, "depends", cell, 0);
            refused(lab, INDEX, "depends", cell, 12);
        }
    }

    private static void owners() {
        about("promise 22: owners");
        NotebookLab lab = lineage();
        due(1, lab.owners(0));
        due(8, lab.owners(1));
        due(1, lab.owners(2));
        due(9, lab.owners(3));
        lab.addCell('+', 2, 7, 0, 8, 1, 1);
        due(13, lab.owners(4));
        lab.addData(9, 1, 0);
        lab.addCell('+', 8, 9, 0, 10, 1, 1);
        due(15, lab.owners(5));
        // Two data of one owner count once.
        lab.addData(11, 1, 0);
        lab.addCell('+', 9, 11, 0, 5, 1, 1);
        due(2, lab.owners(6));
        lab.loseData(0);
        due(1, lab.owners(0));
        for (int cell : with(FAR, -1, 7)) {
            refused(lab, INDEX, "owners", cell);
        }
    }

    private static void dependents() {
        about("promise 23: dependents");
        NotebookLab lab = lineage();
        int[] due = {3, 2, 0, 2, 1, 0, 1, 0, 0, 0, 0, 0};
        for (int variable = 0; variable < 12; variable++) {
            due(due[variable], lab.dependents(variable));
        }
        for (int variable : with(FAR, -1, 12)) {
            refused(lab, ARGUMENT, "dependents", variable);
        }
    }

    private static void addKernel() {
        about("promise 24: addKernel");
        NotebookLab lab = new NotebookLab();
        for (int room : with(FAR, 0, 21, -1)) {
            refused(lab, ARGUMENT, "addKernel", room);
        }
        due(0, lab.addKernel(1));
        due(1, lab.addKernel(20));
        due(2, lab.addKernel(7));
        due(1, lab.free(0));
        due(20, lab.free(1));
        due(7, lab.free(2));
        refused(lab, STATE, "addKernel", 1);
        refused(lab, ARGUMENT, "addKernel", 0);
        refused(lab, ARGUMENT, "addKernel", 21);
    }

    private static void free() {
        about("promise 25: free");
        NotebookLab lab = new NotebookLab();
        lab.addData(0, 0, 1);
        lab.addKernel(10);
        lab.addCell('+', 0, -1, 0, 1, 4, 1);
        lab.addCell('+', 0, -1, 0, 2, 5, 9);
        lab.run(0);
        due(6, lab.free(0));
        lab.run(1);
        due(1, lab.free(0));
        lab.pass(1);
        due(5, lab.free(0));
        lab.setData(0, 2);
        lab.run(0);
        due(1, lab.free(0));
        lab.run(0);
        due(1, lab.free(0));
        lab.pass(7);
        due(5, lab.free(0));
        lab.pass(1);
        due(10, lab.free(0));
        lab.pass(50);
        due(10, lab.free(0));
        for (int kernel : with(FAR, -1, 1, 3)) {
            refused(lab, INDEX, "free", kernel);
        }
    }

    private static void kernelChoice() {
        about("promise 10: run, the kernel with the least room that is enough");
        NotebookLab lab = new NotebookLab();
        lab.addData(0, 0, 1);
        lab.addKernel(8);
        lab.addKernel(4);
        lab.addKernel(4);
        lab.addCell('+', 0, -1, 0, 1, 3, 5);
        lab.addCell('+', 0, -1, 0, 2, 5, 2);
        lab.addCell('+', 0, -1, 0, 3, 1, 9);
        due('r', lab.run(0));
        dueFree(lab, 8, 1, 4);
        due('r', lab.run(1));
        dueFree(lab, 3, 1, 4);
        due('r', lab.run(2));
        dueFree(lab, 3, 0, 4);
        lab.setData(0, 2);
        // The least room counts as it is free: 3 of 8 ahead of 4 of 4.
        due('r', lab.run(0));
        dueFree(lab, 0, 0, 4);
        due('w', lab.run(1));
        due('r', lab.run(2));
        dueFree(lab, 0, 0, 3);
        lab.pass(2);
        dueFree(lab, 5, 0, 3);
        lab.pass(3);
        dueFree(lab, 8, 3, 3);
        lab.pass(4);
        dueFree(lab, 8, 4, 4);
    }

    private static void schedule() {
        about("promise 26: schedule");
        NotebookLab lab = small();
        due(0, lab.schedule(0, 50));
        due(50, lab.schedule(0, 1));
        due(0, lab.schedule(1, 3));
        due(1, lab.schedule(0, 0));
        due(0, lab.schedule(0, 0));
        for (int cell : with(FAR, -1, 2)) {
            refused(lab, INDEX, "schedule", cell, 1);
            refused(lab, INDEX, "schedule", cell, 51);
        }
        for (int period : with(FAR, -1, 51)) {
            refused(lab, ARGUMENT, "schedule", 1, period);
        }
        due(3, lab.schedule(1, 0));
    }

    private static void pass() {
        about("promise 27: pass");
        NotebookLab lab = new NotebookLab();
        lab.addData(0, 0, 10);
        lab.addKernel(1);
        lab.addCell('+', 0, -1, 2, 1, 1, 2);
        lab.addCell('+', 0, -1, 5, 2, 1, 9);
        lab.schedule(0, 3);
        due(0, lab.pass(2));
        due('n', lab.state(0));
        due(1, lab.pass(1));
        due('f', lab.state(0));
        due('n', lab.state(1));
        due(0, lab.pass(50));
        due(1, lab.runs(0));
        due(53, lab.tick());
        // 'w' and failures are not counted: 54 runs, 57 fails, 60 finds.
        lab.setData(0, 11);
        due(1, lab.pass(1));
        lab.loseData(0);
        due(0, lab.pass(3));
        due('x', lab.state(0));
        lab.setData(0, 11);
        due(1, lab.pass(3));
        due(1, lab.found(0));
        lab.run(1);
        lab.setData(0, 12);
        due(0, lab.pass(8));
        due('s', lab.state(0));
        // At 69 the kernel is free again, ahead of the run at the same tick.
        due(1, lab.pass(1));
        lab.schedule(0, 0);
        lab.setData(0, 13);
        due(0, lab.pass(50));
        for (int ticks : with(FAR, 0, 51, -1)) {
            refused(lab, ARGUMENT, "pass", ticks);
        }
    }

    private static void passOrder() {
        about("promise 27: pass, by rising numbers");
        NotebookLab lab = new NotebookLab();
        lab.addData(0, 0, 1);
        lab.addKernel(1);
        lab.addCell('+', 0, -1, 1, 1, 1, 1);
        lab.addCell('+', 1, -1, 1, 2, 1, 1);
        lab.schedule(0, 2);
        lab.schedule(1, 1);
        // 1: cell 1 fails. 2: cell 0 takes the kernel, cell 1 waits. 3: cell 1 runs.
        due(0, lab.pass(1));
        due('x', lab.state(1));
        due(1, lab.pass(1));
        due('f', lab.state(0));
        due('x', lab.state(1));
        due(1, lab.pass(1));
        due(3, lab.value(2));
        // Not scheduled, a stale cell keeps the later one stale, which is found again at each tick.
        lab.schedule(0, 0);
        lab.setData(0, 2);
        due(5, lab.pass(5));
        due(5, lab.found(1));
        due('s', lab.state(1));
        due(true, lab.isSound());
        // Of a chain that is fresh nothing is run, scheduled or not.
        lab.pass(1);
        lab.run(0);
        lab.pass(1);
        lab.addCell('+', 2, 1, 1, 3, 1, 1);
        lab.schedule(2, 1);
        due(1, lab.pass(2));
        due(3, lab.fresh());
        due(0, lab.pass(4));
        lab.schedule(0, 1);
        due(0, lab.pass(4));
    }

    private static void tick() {
        about("promise 28: tick, and 27: pass up to 5000");
        NotebookLab lab = new NotebookLab();
        for (int i = 0; i < 99; i++) {
            lab.pass(50);
        }
        due(4950, lab.tick());
        lab.pass(1);
        due(4951, lab.tick());
        refused(lab, STATE, "pass", 50);
        refused(lab, ARGUMENT, "pass", 51);
        due(0, lab.pass(49));
        due(5000, lab.tick());
        refused(lab, STATE, "pass", 1);
        refused(lab, ARGUMENT, "pass", 0);
    }

    private static void work() {
        about("promise 29: work");
        NotebookLab lab = new NotebookLab();
        lab.addData(0, 0, 1);
        lab.addCell('+', 0, -1, 0, 1, 5, 9);
        lab.addCell('+', 0, -1, 0, 2, 2, 3);
        lab.run(0);
        due(0L, lab.work());
        lab.addKernel(7);
        lab.run(0);
        due(45L, lab.work());
        lab.run(0);
        due(45L, lab.work());
        lab.run(1);
        due(51L, lab.work());
        lab.setData(0, 2);
        lab.run(1);
        due(51L, lab.work());
        lab.pass(9);
        due(51L, lab.work());
        lab.run(1);
        due(57L, lab.work());
    }

    private static void load() {
        about("promise 30: load");
        NotebookLab lab = new NotebookLab();
        lab.addData(0, 0, 1);
        lab.addCell('+', 0, -1, 0, 1, 5, 2);
        refused(lab, ARITHMETIC, "load");
        lab.addKernel(5);
        due(0.0f, lab.load());
        lab.run(0);
        due(1.0f, lab.load());
        lab.addKernel(20);
        lab.addKernel(11);
        due(5.0f / 36.0f, lab.load());
        lab.pass(2);
        due(0.0f, lab.load());
    }

    private static void meanValue() {
        about("promise 31: meanValue");
        NotebookLab lab = new NotebookLab();
        refused(lab, ARITHMETIC, "meanValue");
        lab.addData(0, 0, 0);
        due(0.0, lab.meanValue());
        lab.addData(11, 0, 7);
        lab.addCell('+', 0, 11, 3, 1, 1, 1);
        due(3.5, lab.meanValue());
        lab.addKernel(1);
        lab.run(0);
        due(17.0 / 3.0, lab.meanValue());
        lab.loseData(0);
        due(8.5, lab.meanValue());
        lab.run(0);
        due(7.0, lab.meanValue());
        lab.loseData(11);
        refused(lab, ARITHMETIC, "meanValue");
    }

    private static void publish() {
        about("promise 32: publish");
        NotebookLab lab = small();
        refused(lab, STATE, "publish", 0);
        lab.runAll();
        due(0, lab.publish(0));
        due(1, lab.publish(1));
        lab.setData(0, 11);
        refused(lab, STATE, "publish", 0);
        lab.loseData(0);
        lab.run(0);
        refused(lab, STATE, "publish", 0);
        lab.setData(0, 10);
        lab.run(0);
        for (int view = 2; view < 20; view++) {
            due(view, lab.publish(0));
        }
        refused(lab, STATE, "publish", 0);
        for (int cell : with(FAR, -1, 2)) {
            refused(lab, INDEX, "publish", cell);
        }
        due(12, lab.held(19));
    }

    private static void held() {
        about("promise 33: held");
        NotebookLab lab = small();
        lab.runAll();
        lab.publish(1);
        lab.publish(0);
        due(24, lab.held(0));
        due(12, lab.held(1));
        lab.setData(0, 20);
        lab.runAll();
        due(22, lab.value(1));
        due(12, lab.held(1));
        lab.loseData(0);
        lab.runAll();
        due(12, lab.held(1));
        for (int view : with(FAR, -1, 2, 20)) {
            refused(lab, ELEMENT, "held", view);
            refused(lab, ELEMENT, "isCurrent", view);
        }
    }

    private static void isCurrent() {
        about("promise 34: isCurrent");
        NotebookLab lab = new NotebookLab();
        lab.addData(0, 0, 7);
        lab.addKernel(20);
        lab.addCell('/', 0, -1, 5, 1, 1, 1);
        lab.run(0);
        lab.publish(0);
        due(true, lab.isCurrent(0));
        lab.setData(0, 12);
        due(false, lab.isCurrent(0));
        lab.run(0);
        due('f', lab.state(0));
        due(false, lab.isCurrent(0));
        due(1, lab.publish(0));
        due(true, lab.isCurrent(1));
        // Another way to the same value.
        lab.setData(0, 8);
        due(false, lab.isCurrent(0));
        lab.run(0);
        due(true, lab.isCurrent(0));
        due(false, lab.isCurrent(1));
        lab.loseData(0);
        lab.run(0);
        due(false, lab.isCurrent(0));
        lab.setData(0, 8);
        lab.run(0);
        lab.addCell('+', 1, -1, 1, 2, 1, 1);
        lab.run(1);
        due(2, lab.publish(1));
        due(true, lab.isCurrent(2));
        lab.setConstant(1, 2);
        due(true, lab.isCurrent(0));
        due(false, lab.isCurrent(2));
        lab.run(1);
        due(false, lab.isCurrent(2));
    }

    private static void isSound() {
        about("promise 35: isSound");
        NotebookLab lab = lineage();
        lab.addKernel(3);
        lab.addKernel(1);
        lab.addKernel(20);
        due(true, lab.isSound());
        for (int i = 0; i < 40; i++) {
            lab.setData(i % 3, i * 37 % 1000);
            due(true, lab.isSound());
            lab.run(i % 4);
            due(true, lab.isSound());
            if (i % 5 == 0) {
                lab.loseData(i % 2);
                lab.runAll();
                due(true, lab.isSound());
            }
            lab.pass(1);
            due(true, lab.isSound());
        }
    }

    /** One variable of 10, a kernel of 3, cells that add 2 to it and double what that gives; needs 1 for 9 ticks. */
    private static NotebookLab small() {
        NotebookLab lab = new NotebookLab();
        lab.addData(0, 1, 10);
        lab.addKernel(3);
        lab.addCell('+', 0, -1, 2, 1, 1, 9);
        lab.addCell('*', 1, -1, 2, 2, 1, 9);
        return lab;
    }

    /** Data 0, 1 and 2 of the owners 0, 3 and 2; 3 reads 0, 4 reads 1, 5 reads 3, 7 reads 6, which is 5 and 4. */
    private static NotebookLab lineage() {
        NotebookLab lab = new NotebookLab();
        lab.addData(0, 0, 1);
        lab.addData(1, 3, 2);
        lab.addData(2, 2, 3);
        lab.addCell('+', 0, 0, 1, 3, 1, 2);
        lab.addCell('-', 1, -1, 1, 4, 2, 2);
        lab.addCell('*', 3, -1, 1, 6, 1, 3);
        lab.addCell('/', 6, 4, 1, 7, 1, 1);
        return lab;
    }

    private static int result(char kind, int first, int second, int constant) {
        NotebookLab lab = new NotebookLab();
        lab.addKernel(1);
        lab.addData(0, 0, first);
        if (second >= 0) {
            lab.addData(1, 0, second);
        }
        lab.addCell(kind, 0, second >= 0 ? 1 : -1, constant, 2, 1, 1);
        due('r', lab.run(0));
        due(lab.value(2), lab.resultAnew(0));
        return lab.value(2);
    }

    private static char runWith(NotebookLab lab, int value) {
        lab.setData(0, value);
        return lab.run(0);
    }
}
