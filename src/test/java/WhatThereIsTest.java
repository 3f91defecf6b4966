/** Promises 9 to 12: jar, shelf, ghost and count. */
public final class WhatThereIsTest {
    private static final Class<?> INDEX = IndexOutOfBoundsException.class;

    public static void main(String[] args) {
        jarTellsAll();
        jarRefusesWrongInputs();
        shelfTellsKinds();
        ghostTellsKinds();
        countTellsAll();
        Checks.end();
    }

    /** Three places, 3 and 4 on new, 0 on tried, 1 and 2 in the list of new. */
    private static PinnedPantry filled() {
        PinnedPantry x = new PinnedPantry();
        x.setPlaces(3);
        x.fetchAll(0, 1, 3);
        x.fetch(0);
        x.fetchAll(3, 1, 2);
        x.fetch(4);
        x.pin(3);
        x.pin(3);
        Checks.holds(x, "filled", "3 4|0|1 2|");
        return x;
    }

    private static void jarTellsAll() {
        PinnedPantry x = filled();
        int[][] due = {{0, 1, 0, 0, 0, 2}, {3, 0, 0, 0, 2, 1}, {4, 0, 1, 1, 0, 2}};
        for (int[] row : due) {
            for (int what = 0; what <= 4; what++) {
                Checks.due("jar(" + row[0] + ", " + what + ")", x.jar(row[0], what), row[what + 1]);
            }
        }
        int[] without = {1, 2, 5, 39};
        for (int kind : without) {
            for (int what = 0; what <= 4; what++) {
                Checks.due("jar(" + kind + ", " + what + ")", x.jar(kind, what), -1);
            }
        }
    }

    private static void jarRefusesWrongInputs() {
        PinnedPantry x = filled();
        Checks.refused(x, "jar(40, 0)", INDEX, () -> x.jar(40, 0));
        Checks.refused(x, "jar(-1, 0)", INDEX, () -> x.jar(-1, 0));
        Checks.refused(x, "jar(0, 5)", INDEX, () -> x.jar(0, 5));
        Checks.refused(x, "jar(0, -1)", INDEX, () -> x.jar(0, -1));
        Checks.refused(x, "jar(5, 5)", INDEX, () -> x.jar(5, 5));
    }

    private static void shelfTellsKinds() {
        PinnedPantry x = filled();
        Checks.due("shelf(0, 0)", x.shelf(0, 0), 3);
        Checks.due("shelf(0, 1)", x.shelf(0, 1), 4);
        Checks.due("shelf(1, 0)", x.shelf(1, 0), 0);
        Checks.refused(x, "shelf(0, 2)", INDEX, () -> x.shelf(0, 2));
        Checks.refused(x, "shelf(1, 1)", INDEX, () -> x.shelf(1, 1));
        Checks.refused(x, "shelf(0, -1)", INDEX, () -> x.shelf(0, -1));
        Checks.refused(x, "shelf(2, 0)", INDEX, () -> x.shelf(2, 0));
        Checks.refused(x, "shelf(-1, 0)", INDEX, () -> x.shelf(-1, 0));
        Checks.refused(x, "shelf(0, MAX)", INDEX, () -> x.shelf(0, Integer.MAX_VALUE));
        Checks.refused(x, "shelf(0, 100)", INDEX, () -> x.shelf(0, 100));
    }

    private static void ghostTellsKinds() {
        PinnedPantry x = filled();
        Checks.due("ghost(0, 0)", x.ghost(0, 0), 1);
        Checks.due("ghost(0, 1)", x.ghost(0, 1), 2);
        Checks.refused(x, "ghost(0, 2)", INDEX, () -> x.ghost(0, 2));
        Checks.refused(x, "ghost(1, 0)", INDEX, () -> x.ghost(1, 0));
        Checks.refused(x, "ghost(0, -1)", INDEX, () -> x.ghost(0, -1));
        Checks.refused(x, "ghost(2, 0)", INDEX, () -> x.ghost(2, 0));
        Checks.refused(x, "ghost(-1, 0)", INDEX, () -> x.ghost(-1, 0));
        x.setGoal(3);
        x.fetch(5);
        Checks.due("ghost(1, 0)", x.ghost(1, 0), 0);
        Checks.refused(x, "ghost(1, 1)", INDEX, () -> x.ghost(1, 1));
        Checks.refused(x, "ghost(2, 0) by a full list", INDEX, () -> x.ghost(2, 0));
        Checks.refused(x, "ghost(-1, 0) by a full list", INDEX, () -> x.ghost(-1, 0));
    }

    private static void countTellsAll() {
        PinnedPantry x = filled();
        x.setGoal(2);
        int[] due = {3, 2, 1, 2, 0, 2, 2, 5, 0, 3, 1};
        for (int what = 0; what <= 10; what++) {
            Checks.due("count(" + what + ")", x.count(what), due[what]);
        }
        x.setGoal(3);
        x.fetch(5);
        x.fetch(1);
        Checks.holds(x, "later", "5 3|1|2|0 4");
        int[] later = {3, 2, 1, 1, 2, 3, 2, 7, 1, 7, 1};
        for (int what = 0; what <= 10; what++) {
            Checks.due("count(" + what + ") later", x.count(what), later[what]);
        }
        x.pin(1);
        Checks.due("pinned jars on both shelves", x.count(10), 2);
        Checks.refused(x, "count(11)", INDEX, () -> x.count(11));
        Checks.refused(x, "count(-1)", INDEX, () -> x.count(-1));
    }
}
