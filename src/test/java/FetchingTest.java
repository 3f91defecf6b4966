/** Promises 1 to 3: a new object, fetch and fetchAll, with the sweeping and the turning of the goal. */
public final class FetchingTest {
    private static final Class<?> INDEX = IndexOutOfBoundsException.class;
    private static final Class<?> ARGUMENT = IllegalArgumentException.class;
    private static final Class<?> STATE = IllegalStateException.class;

    public static void main(String[] args) {
        newObjectIsEmpty();
        objectsShareNothing();
        fetchTellsHitsAndMisses();
        edgesOfKinds();
        touchedJarsGetASecondChance();
        touchedJarOnTriedGoesRound();
        pinnedJarsStay();
        goalDecidesWhichShelfGives();
        newGivesWhenTriedCannot();
        rememberedByNewTurnsTheGoalUp();
        rememberedByTriedTurnsTheGoalDown();
        goalTurnsByTheQuotientOfTheLists();
        goalTurnsUpByTheQuotientOfTheLists();
        listsForgetTheEldest();
        fetchIsRefusedWhenAllIsPinned();
        fetchAllFetchesOneBehindTheOther();
        fetchAllLeavesOutWhatCannotBeFetched();
        fetchAllRefusesWrongInputs();
        Checks.end();
    }

    private static void newObjectIsEmpty() {
        PinnedPantry x = new PinnedPantry();
        Checks.due("places of a new one", x.count(0), 6);
        for (int what = 1; what <= 10; what++) {
            Checks.due("count(" + what + ") of a new one", x.count(what), 0);
        }
        Checks.holds(x, "a new one", "|||");
        Checks.due("next() of a new one", x.next(), -1);
        Checks.due("mean() of a new one", x.mean(), 0.0);
    }

    private static void objectsShareNothing() {
        PinnedPantry x = new PinnedPantry();
        PinnedPantry y = new PinnedPantry();
        long empty = y.digest();
        x.fetchAll(0, 1, 9);
        x.pin(8);
        Checks.due("digest() of another one", y.digest(), empty);
    }

    private static void fetchTellsHitsAndMisses() {
        PinnedPantry x = new PinnedPantry();
        Checks.due("first fetch(7)", x.fetch(7), 1);
        Checks.due("touched behind a miss", x.jar(7, 2), 0);
        Checks.due("fetched behind a miss", x.jar(7, 4), 1);
        Checks.due("second fetch(7)", x.fetch(7), 0);
        Checks.due("touched behind a hit", x.jar(7, 2), 1);
        Checks.due("fetched behind a hit", x.jar(7, 4), 2);
        Checks.due("hits", x.count(6), 1);
        Checks.due("misses", x.count(7), 1);
        Checks.holds(x, "one jar", "7|||");
    }

    private static void edgesOfKinds() {
        PinnedPantry x = new PinnedPantry();
        Checks.due("fetch(0)", x.fetch(0), 1);
        Checks.due("fetch(39)", x.fetch(39), 1);
        Checks.refused(x, "fetch(40)", INDEX, () -> x.fetch(40));
        Checks.refused(x, "fetch(-1)", INDEX, () -> x.fetch(-1));
        Checks.refused(x, "fetch(MAX)", INDEX, () -> x.fetch(Integer.MAX_VALUE));
        Checks.refused(x, "fetch(MIN)", INDEX, () -> x.fetch(Integer.MIN_VALUE));
    }

    private static void touchedJarsGetASecondChance() {
        PinnedPantry x = new PinnedPantry();
        x.setPlaces(3);
        x.fetchAll(0, 1, 3);
        x.fetch(0);
        Checks.due("fetch(3)", x.fetch(3), 1);
        Checks.holds(x, "behind a second chance", "2 3|0|1|");
        Checks.due("touched behind its second chance", x.jar(0, 2), 0);
        Checks.due("looks", x.count(9), 2);
    }

    private static void touchedJarOnTriedGoesRound() {
        PinnedPantry x = triedPantry();
        x.setGoal(3);
        x.fetch(0);
        x.fetch(10);
        Checks.holds(x, "tried gave, and 0 went round", "3 10|2 0|4|1");
        Checks.due("touched behind going round", x.jar(0, 2), 0);
    }

    /** Four places: 3 on new, and 0, 1, 2 on tried, none of them touched; 4 has left new. */
    private static PinnedPantry triedPantry() {
        PinnedPantry x = new PinnedPantry();
        x.setPlaces(4);
        x.fetchAll(0, 1, 3);
        x.fetchAll(0, 1, 3);
        x.fetch(4);
        x.fetch(3);
        Checks.holds(x, "three are tried", "3|0 1 2|4|");
        Checks.due("looks, at three that went to tried and one that left", x.count(9), 4);
        return x;
    }

    private static void pinnedJarsStay() {
        PinnedPantry x = new PinnedPantry();
        x.setPlaces(3);
        x.fetchAll(0, 1, 3);
        x.pin(0);
        x.fetch(0);
        x.pin(1);
        x.fetch(3);
        Checks.holds(x, "pinned ones went round", "0 1 3||2|");
        Checks.due("looks at pinned ones are counted", x.count(9), 3);
        Checks.due("a pinned one stays touched", x.jar(0, 2), 1);
        Checks.due("a pinned one stays untouched", x.jar(1, 2), 0);
    }

    private static void goalDecidesWhichShelfGives() {
        PinnedPantry x = triedPantry();
        x.setGoal(1);
        x.fetch(10);
        Checks.holds(x, "new had as many as the goal", "10|0 1 2|4 3|");
        PinnedPantry y = triedPantry();
        y.setGoal(2);
        y.fetch(10);
        Checks.holds(y, "new had less than the goal", "3 10|1 2|4|0");
        PinnedPantry z = triedPantry();
        z.setGoal(0);
        z.fetch(10);
        Checks.holds(z, "a goal of 0 is as one of 1", "10|0 1 2|4 3|");
        PinnedPantry w = triedPantry();
        w.eat(2);
        w.fetch(20);
        w.pin(20);
        w.setGoal(2);
        w.fetch(10);
        Checks.holds(w, "pinned ones count for the goal", "20 10|0 1|4 3|");
    }

    private static void newGivesWhenTriedCannot() {
        PinnedPantry x = triedPantry();
        x.setGoal(4);
        x.pin(0);
        x.pin(1);
        x.pin(2);
        x.fetch(10);
        Checks.holds(x, "all on tried are pinned", "10|0 1 2|4 3|");
        x.pin(10);
        x.unpin(1);
        x.setGoal(0);
        x.fetch(11);
        Checks.holds(x, "all on new are pinned", "10 11|2 0|4 3|1");
    }

    private static void rememberedByNewTurnsTheGoalUp() {
        PinnedPantry x = new PinnedPantry();
        x.setPlaces(2);
        x.fetchAll(0, 1, 4);
        Checks.holds(x, "two left new", "2 3||0 1|");
        Checks.due("fetch(0) from the list of new", x.fetch(0), 2);
        Checks.due("goal", x.count(5), 1);
        Checks.due("remembered", x.count(8), 1);
        Checks.holds(x, "0 is on tried", "3|0|1 2|");
        Checks.due("fetched is from 1 again", x.jar(0, 4), 1);
        x.setGoal(2);
        Checks.due("fetch(1) from the list of new", x.fetch(1), 2);
        Checks.due("the goal is at most the places", x.count(5), 2);
    }

    private static void rememberedByTriedTurnsTheGoalDown() {
        PinnedPantry x = triedPantry();
        x.setGoal(2);
        x.fetch(10);
        x.setGoal(1);
        Checks.due("fetch(0) from the list of tried", x.fetch(0), 3);
        Checks.due("goal", x.count(5), 0);
        Checks.due("remembered", x.count(8), 1);
        Checks.holds(x, "0 is on tried again", "10|1 2 0|4 3|");
        x.setGoal(2);
        x.fetch(11);
        x.setGoal(0);
        Checks.due("fetch(1) from the list of tried", x.fetch(1), 3);
        Checks.due("the goal is at least 0", x.count(5), 0);
    }

    private static void goalTurnsByTheQuotientOfTheLists() {
        PinnedPantry x = new PinnedPantry();
        x.fetchAll(0, 1, 6);
        x.fetchAll(0, 1, 6);
        x.fetchAll(10, 1, 6);
        Checks.holds(x, "five left new", "15|1 2 3 4 5|10 11 12 13 14|0");
        x.setGoal(6);
        x.fetch(16);
        Checks.holds(x, "two left tried", "15 16|2 3 4 5|10 11 12 13 14|0 1");
        Checks.due("fetch(1)", x.fetch(1), 3);
        Checks.due("the goal went down by 5 / 2", x.count(5), 4);
        Checks.holds(x, "1 is back", "15 16|3 4 5 1|10 11 12 13 14|0 2");
        Checks.due("fetch(10)", x.fetch(10), 2);
        Checks.due("the goal went up by 1, as 2 / 5 is less", x.count(5), 5);
    }

    private static void goalTurnsUpByTheQuotientOfTheLists() {
        PinnedPantry x = new PinnedPantry();
        x.fetchAll(0, 1, 6);
        x.fetchAll(0, 1, 6);
        x.fetch(10);
        x.fetch(11);
        x.setGoal(6);
        x.fetchAll(12, 1, 4);
        Checks.holds(x, "five left tried, and one new", "11 12 13 14 15|5|10|0 1 2 3 4");
        x.setGoal(0);
        Checks.due("fetch(10)", x.fetch(10), 2);
        Checks.due("the goal went up by 5 / 1", x.count(5), 5);
    }

    private static void listsForgetTheEldest() {
        PinnedPantry x = new PinnedPantry();
        x.setPlaces(2);
        x.fetchAll(0, 1, 5);
        Checks.holds(x, "0 is forgotten", "3 4||1 2|");
        Checks.due("fetch(0)", x.fetch(0), 1);
    }

    private static void fetchIsRefusedWhenAllIsPinned() {
        PinnedPantry x = new PinnedPantry();
        x.setPlaces(2);
        x.fetchAll(0, 1, 3);
        x.pin(1);
        x.pin(2);
        Checks.refused(x, "fetch(3)", STATE, () -> x.fetch(3));
        Checks.refused(x, "fetch(0), remembered", STATE, () -> x.fetch(0));
        Checks.refused(x, "fetch(40)", INDEX, () -> x.fetch(40));
        Checks.due("a hit", x.fetch(2), 0);
        x.setPlaces(3);
        Checks.due("a place is free", x.fetch(3), 1);
    }

    private static void fetchAllFetchesOneBehindTheOther() {
        PinnedPantry x = new PinnedPantry();
        Checks.due("fetchAll(38, 1, 4)", x.fetchAll(38, 1, 4), 0);
        Checks.holds(x, "by the remainder of 40", "38 39 0 1|||");
        Checks.due("fetchAll(38, 1, 4) again", x.fetchAll(38, 1, 4), 4);
        Checks.due("fetchAll(5, 0, 30)", x.fetchAll(5, 0, 30), 29);
        Checks.due("fetchAll(39, 39, 1)", x.fetchAll(39, 39, 1), 1);
        PinnedPantry y = new PinnedPantry();
        y.fetchAll(39, 39, 30);
        Checks.holds(y, "39, 38, .. 10", "15 14 13 12 11 10||21 20 19 18 17 16|");
        Checks.due("misses", y.count(7), 30);
    }

    private static void fetchAllLeavesOutWhatCannotBeFetched() {
        PinnedPantry x = new PinnedPantry();
        x.setPlaces(2);
        x.fetchAll(0, 2, 2);
        x.pin(0);
        x.pin(2);
        Checks.due("fetchAll(0, 1, 4)", x.fetchAll(0, 1, 4), 2);
        Checks.holds(x, "1 and 3 were left out", "0 2|||");
        Checks.due("misses", x.count(7), 2);
    }

    private static void fetchAllRefusesWrongInputs() {
        PinnedPantry x = new PinnedPantry();
        x.fetchAll(0, 1, 3);
        Checks.refused(x, "fetchAll(40, 40, 0)", INDEX, () -> x.fetchAll(40, 40, 0));
        Checks.refused(x, "fetchAll(-1, 0, 1)", INDEX, () -> x.fetchAll(-1, 0, 1));
        Checks.refused(x, "fetchAll(0, 40, 1)", ARGUMENT, () -> x.fetchAll(0, 40, 1));
        Checks.refused(x, "fetchAll(0, -1, 1)", ARGUMENT, () -> x.fetchAll(0, -1, 1));
        Checks.refused(x, "fetchAll(0, 0, 0)", ARGUMENT, () -> x.fetchAll(0, 0, 0));
        Checks.refused(x, "fetchAll(0, 0, 31)", ARGUMENT, () -> x.fetchAll(0, 0, 31));
    }
}
