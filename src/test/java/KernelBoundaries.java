/** The boundary cases of kernels: promises 24, 25, 29 and 30. */
final class KernelBoundaries extends Checks {
    // addKernel

    @Says(promise = 24, value = "At most 3 kernels exist, numbered from 0, each with a room from 1 to 20.")
    static void addKernelRoom() {
        NotebookLab lab = new NotebookLab();
        due(0, lab.addKernel(1));
        due(1, lab.addKernel(20));
        due(2, lab.addKernel(2));
        dueFree(lab, 1, 20, 2);
        refusedOutside(1, 20, Rooms::empty, ARGUMENT, "addKernel", HERE);
        refusedOutside(1, 20, Rooms::mixed, ARGUMENT, "addKernel", HERE);
        refused(Rooms::mixed, ARGUMENT, "addKernel", -1);
    }

    @Says(promise = 24, value = "Throws IllegalStateException if there are 3 kernels")
    static void addKernelUpToThree() {
        NotebookLab lab = Rooms.mixed();
        due(2, lab.addKernel(1));
        refused(lab, STATE, "addKernel", 1);
        refused(lab, STATE, "addKernel", 20);
        refused(Rooms::full, STATE, "addKernel", 1);
        refused(Rooms::full, STATE, "addKernel", 20);
    }

    // free

    @Says(promise = 25, value = "Throws IndexOutOfBoundsException if there is no such kernel")
    static void freeKernel() {
        dueFree(Rooms.mixed(), 1, 1);
        dueFree(Rooms.full(), 9, 20, 20);
        refused(Rooms::empty, INDEX, "free", 0);
        refusedOutside(0, 1, Rooms::mixed, INDEX, "free", HERE);
        refusedOutside(0, 2, Rooms::full, INDEX, "free", HERE);
    }

    @Says(promise = 25, value = "Free is what is left of the room: from all of it down to nothing.")
    static void freeDownToNothing() {
        NotebookLab lab = Rooms.single('+', 0, -1, 0, 20, 1, 9);
        for (int taken = 0; taken < 20; taken++) {
            dueFree(lab, 20 - taken);
            due('r', runWith(lab, taken));
        }
        dueFree(lab, 0);
        due('w', runWith(lab, 20));
        dueFree(lab, 0);
        due(true, lab.isSound());
        lab.pass(9);
        dueFree(lab, 20);
    }

    @Says(promise = {10, 25}, value = "the kernel with the least room that is free and enough for its need")
    static void leastRoomThatIsEnough() {
        NotebookLab lab = new NotebookLab();
        lab.addData(0, 0, 1);
        lab.addKernel(4);
        lab.addKernel(20);
        lab.addKernel(5);
        lab.addCell('+', 0, -1, 0, 1, 5, 9);
        lab.addCell('+', 0, -1, 0, 2, 4, 9);
        // 4 is less, but not enough for 5; 5 is, and less than 20.
        due('r', lab.run(0));
        dueFree(lab, 4, 20, 0);
        due('r', lab.run(1));
        dueFree(lab, 0, 20, 0);
        lab.setData(0, 2);
        due('r', lab.run(0));
        dueFree(lab, 0, 15, 0);
        due('r', lab.run(1));
        dueFree(lab, 0, 11, 0);
    }

    @Says(promise = {10, 25}, value = "the least room that is free: what is free counts, not the room")
    static void leastRoomIsOfWhatIsFree() {
        NotebookLab lab = new NotebookLab();
        lab.addData(0, 0, 1);
        lab.addKernel(7);
        lab.addCell('+', 0, -1, 0, 1, 5, 9);
        lab.addCell('+', 0, -1, 0, 2, 1, 9);
        due('r', lab.run(0));
        lab.addKernel(3);
        // Free are 2 of 7 and 3 of 3.
        due('r', lab.run(1));
        dueFree(lab, 1, 3);
    }

    @Says(promise = {10, 25}, value = "of several the one with the lowest number")
    static void lowestNumberOfSeveral() {
        NotebookLab lab = new NotebookLab();
        lab.addData(0, 0, 1);
        for (int kernel = 0; kernel < 3; kernel++) {
            lab.addKernel(5);
        }
        lab.addCell('+', 0, -1, 0, 1, 5, 9);
        for (int kernel = 0; kernel < 3; kernel++) {
            due('r', runWith(lab, kernel));
            dueFree(lab, 0, kernel < 1 ? 5 : 0, kernel < 2 ? 5 : 0);
        }
        due('w', runWith(lab, 3));
        // As much is free of 7 as of 4 and 4, and kernel 0 has the lowest number, though it has the most room.
        NotebookLab other = new NotebookLab();
        other.addData(0, 0, 1);
        other.addKernel(7);
        other.addCell('+', 0, -1, 0, 1, 3, 9);
        due('r', other.run(0));
        other.addKernel(4);
        other.addKernel(4);
        other.setData(0, 2);
        due('r', other.run(0));
        dueFree(other, 1, 4, 4);
        other.setData(0, 3);
        due('r', other.run(0));
        dueFree(other, 1, 1, 4);
    }

    @Says(promise = {10, 25}, value = "its need is taken from that tick on for as many ticks as its time is")
    static void takenForItsTime() {
        for (int time = 1; time <= 9; time++) {
            NotebookLab lab = Rooms.single('+', 0, -1, 0, 5, 3, time);
            due('r', lab.run(0));
            for (int tick = 0; tick < time; tick++) {
                dueFree(lab, 2);
                due('w', runWith(lab, 1));
                lab.pass(1);
            }
            due(time, lab.tick());
            dueFree(lab, 5);
            due('r', runWith(lab, 1));
        }
    }

    @Says(promise = {25, 27},
        value = "A need that is taken at a tick is free again when the number of the tick is greater by the "
            + "time.")
    static void freeAgainWithinAPass() {
        for (int ticks = 1; ticks <= 12; ticks++) {
            NotebookLab lab = Rooms.single('+', 0, -1, 0, 5, 3, 9);
            lab.pass(7);
            due('r', lab.run(0));
            lab.pass(ticks);
            dueFree(lab, ticks < 9 ? 2 : 5);
        }
    }

    @Says(promise = {25, 27},
        value = "needs whose time is over are free again: each one at its own tick, of several kernels")
    static void eachNeedAtItsOwnTick() {
        NotebookLab lab = new NotebookLab();
        lab.addData(0, 0, 1);
        lab.addKernel(3);
        lab.addKernel(20);
        lab.addCell('+', 0, -1, 0, 1, 1, 9);
        lab.addCell('+', 0, -1, 0, 2, 2, 4);
        lab.addCell('+', 0, -1, 0, 3, 5, 3);
        due('r', lab.run(0));
        due('r', lab.run(1));
        lab.pass(1);
        due('r', lab.run(2));
        dueFree(lab, 0, 15);
        lab.pass(2);
        dueFree(lab, 0, 15);
        // At the tick 4 the needs of 2 and of 5 are free again, though they were taken at different ticks.
        lab.pass(1);
        dueFree(lab, 2, 20);
        lab.pass(4);
        dueFree(lab, 2, 20);
        lab.pass(1);
        dueFree(lab, 3, 20);
    }

    @Says(promise = {25, 27},
        value = "needs whose time is over are free again: of many that were taken at successive ticks")
    static void needsOfSuccessiveTicks() {
        NotebookLab lab = Rooms.single('+', 0, -1, 0, 20, 2, 9);
        for (int tick = 0; tick < 60; tick++) {
            due('r', runWith(lab, tick));
            dueFree(lab, 20 - 2 * Math.min(9, tick + 1));
            lab.pass(1);
        }
        lab.pass(7);
        dueFree(lab, 18);
        lab.pass(1);
        dueFree(lab, 20);
    }

    @Says(promise = {24, 25}, value = "A kernel that is added later has all its room")
    static void laterKernelIsFree() {
        NotebookLab lab = Rooms.mixed();
        due(2, lab.addKernel(4));
        dueFree(lab, 1, 1, 4);
        lab.pass(50);
        dueFree(lab, 3, 2, 4);
    }

    // work

    @Says(promise = 29, value = "Returns the sum, over all runs on kernels, of the need times the time.")
    static void workSum() {
        due(0L, Rooms.empty().work());
        due(0L, Rooms.chain().work());
        due(99L, Rooms.full().work());
        due(9L + 6L, Rooms.mixed().work());
        for (int need = 1; need <= 5; need += 4) {
            for (int time = 1; time <= 9; time += 8) {
                NotebookLab lab = Rooms.single('+', 0, -1, 0, 5, need, time);
                lab.run(0);
                due((long) need * time, lab.work());
            }
        }
    }

    @Says(promise = 29, value = "over all runs on kernels: what is found, fails or waits is no work, and work stays")
    static void workOfRunsAlone() {
        NotebookLab lab = Rooms.single('/', 5, 5, 0, 9, 5, 9);
        due('r', lab.run(0));
        due('h', lab.run(0));
        due('w', runWith(lab, 6));
        lab.setData(1, 0);
        due('z', lab.run(0));
        lab.loseData(1);
        due('m', lab.run(0));
        due(45L, lab.work());
        lab.pass(50);
        due(45L, lab.work());
        lab.setData(1, 5);
        due('r', lab.run(0));
        due(90L, lab.work());
    }

    @Says(promise = 29, value = "over all runs on kernels: of all that one object is used for")
    static void workOfManyRuns() {
        NotebookLab lab = Rooms.chain();
        for (int kernel = 0; kernel < 3; kernel++) {
            lab.addKernel(20);
        }
        for (int cell = 0; cell < 11; cell++) {
            lab.schedule(cell, 1);
        }
        for (int value = 0; value < 200; value++) {
            lab.setData(0, value);
            lab.pass(10);
        }
        due(200L * 11L * 9L, lab.work());
    }

    // load

    @Says(promise = 30, value = "Throws ArithmeticException if there are no kernels")
    static void loadWithoutKernels() {
        refused(Rooms::empty, ARITHMETIC, "load");
        refused(Rooms::chain, ARITHMETIC, "load");
        refused(Rooms::allData, ARITHMETIC, "load");
        NotebookLab lab = new NotebookLab();
        lab.addKernel(1);
        due(0.0f, lab.load());
    }

    @Says(promise = 30,
        value = "Returns the sum of what is taken divided by that of all rooms, both converted to float.")
    static void loadShare() {
        NotebookLab lab = Rooms.single('+', 0, -1, 0, 20, 5, 9);
        lab.addKernel(20);
        lab.addKernel(20);
        due(0.0f, lab.load());
        for (int runs = 1; runs <= 12; runs++) {
            due('r', runWith(lab, runs));
            due((float) (5 * runs) / (float) 60, lab.load());
        }
        due(1.0f, lab.load());
        due('w', runWith(lab, 13));
        due(1.0f, lab.load());
        lab.pass(8);
        due(1.0f, lab.load());
        lab.pass(1);
        due(0.0f, lab.load());
        NotebookLab third = Rooms.single('+', 0, -1, 0, 3, 1, 9);
        third.run(0);
        due(1.0f / 3.0f, third.load());
        NotebookLab one = Rooms.single('+', 0, -1, 0, 1, 1, 1);
        one.run(0);
        due(1.0f, one.load());
    }

    @Says(promise = 30, value = "that of all rooms: of kernels that are used and of those that are not")
    static void loadOfAllRooms() {
        due(3.0f / 5.0f, Rooms.mixed().load());
        due(11.0f / 60.0f, Rooms.full().load());
        NotebookLab lab = Rooms.mixed();
        lab.addKernel(20);
        due(3.0f / 25.0f, lab.load());
    }

    private static char runWith(NotebookLab lab, int value) {
        lab.setData(0, value);
        return lab.run(0);
    }
}
