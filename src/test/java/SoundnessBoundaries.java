import java.lang.reflect.Array;
import java.lang.reflect.Field;

/**
 * Promise 35 where something is not sound. No calls lead there, so these tests put wrong numbers into the object's
 * fields; they know the names of these fields, as no other tests do.
 */
final class SoundnessBoundaries extends Checks {
    private static final int NONE = -1;

    @Says(promise = 35,
        value = "the variable that a fresh cell writes has the result that the cell would have if all cells "
            + "were run in order")
    static void notSoundByAFreshCell() {
        for (int cell : new int[] {0, 5, 10}) {
            NotebookLab lab = Rooms.full();
            for (int wrong : new int[] {NONE, cell + 5, cell + 7}) {
                putValue(lab, cell + 1, wrong);
                due('f', lab.state(cell));
                due(false, lab.isSound());
            }
            putValue(lab, cell + 1, cell + 6);
            due(true, lab.isSound());
        }
    }

    @Says(promise = 35,
        value = "the variable that a fresh cell writes: of one that is stale or has failed nothing is asked")
    static void soundByCellsThatAreNotFresh() {
        NotebookLab lab = Rooms.mixed();
        due('s', lab.state(4));
        putValue(lab, 7, 999);
        due('x', lab.state(1));
        putValue(lab, 4, 999);
        due(true, lab.isSound());
        putValue(lab, 3, 999);
        due('f', lab.state(0));
        due(false, lab.isSound());
    }

    @Says(promise = 35, value = "no kernel is given more than its room: as much as its room is not more")
    static void notSoundByAKernel() {
        for (int kernel = 0; kernel < 3; kernel++) {
            NotebookLab lab = Rooms.full();
            Object inside = part(lab, "kernels", kernel);
            put(inside, "taken", 20);
            due(0, lab.free(kernel));
            due(true, lab.isSound());
            put(inside, "taken", 21);
            due(false, lab.isSound());
        }
    }

    @Says(promise = 35,
        value = "no failure is among its own causes: it would have more causes than there are cells up to it")
    static void notSoundByAFailure() {
        NotebookLab lab = Rooms.full();
        lab.loseData(0);
        lab.runAll();
        for (int cell = 0; cell < 11; cell++) {
            Object failure = read(part(lab, "cells", cell), "lastFailure");
            due(cell, lab.causes(cell));
            put(failure, "causeCount", cell + 1);
            due(false, lab.isSound());
            put(failure, "causeCount", cell);
            due(true, lab.isSound());
        }
        // The root of cell 3 is the failure of cell 1: with cell 2 between them two causes could be, and not three.
        NotebookLab mixed = Rooms.mixed();
        Object failure = read(part(mixed, "cells", 3), "lastFailure");
        due(1, mixed.root(3));
        put(failure, "causeCount", 3);
        due(false, mixed.isSound());
        put(failure, "causeCount", 2);
        due(true, mixed.isSound());
        // What is left of the failure of a cell that has not failed is not told, and not looked at.
        put(read(part(mixed, "cells", 0), "lastFailure"), "causeCount", 5);
        due(true, mixed.isSound());
    }

    private static void putValue(NotebookLab lab, int variable, int value) {
        Array.setInt(read(lab, "values"), variable, value);
    }

    private static Object part(NotebookLab lab, String row, int number) {
        return Array.get(read(lab, row), number);
    }

    private static Object read(Object from, String name) {
        try {
            return fieldOf(from, name).get(from);
        } catch (ReflectiveOperationException e) {
            throw new AssertionError(e);
        }
    }

    private static void put(Object into, String name, int value) {
        try {
            fieldOf(into, name).setInt(into, value);
        } catch (ReflectiveOperationException e) {
            throw new AssertionError(e);
        }
    }

    private static Field fieldOf(Object owner, String name) throws NoSuchFieldException {
        Field field = owner.getClass().getDeclaredField(name);
        field.setAccessible(true);
        return field;
    }
}
