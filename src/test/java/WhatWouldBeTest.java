/** Promises 13 to 18: next, would, trial, advise, mean and digest. */
public final class WhatWouldBeTest {
    private static final Class<?> INDEX = IndexOutOfBoundsException.class;
    private static final Class<?> ARGUMENT = IllegalArgumentException.class;

    public static void main(String[] args) {
        nextTellsWhichLeaves();
        nextGoesByTheGoal();
        nextNeedsAJarThatIsNotPinned();
        wouldTellsWhatFetchTells();
        wouldTellsWhatCannotBeFetched();
        wouldRefusesWrongInputs();
        trialTellsWhatFetchAllTells();
        trialHeedsTheLists();
        trialHeedsThePlaces();
        adviseFindsTheFewestPlaces();
        adviseHeedsPinnedJars();
        trialAndAdviseRefuseWrongInputs();
        meanOfFetches();
        digestIsAsTheDocumentSays();
        Checks.end();
    }

    private static void nextTellsWhichLeaves() {
        PinnedPantry x = new PinnedPantry();
        x.fetchAll(0, 1, 4);
        x.fetch(0);
        x.pin(1);
        long before = x.digest();
        Checks.due("next(), with places free", x.next(), 2);
        Checks.due("next() again", x.next(), 2);
        Checks.due("digest() behind next()", x.digest(), before);
        x.fetch(2);
        x.fetch(3);
        Checks.due("next(), when all are touched or pinned", x.next(), 0);
    }

    private static void nextGoesByTheGoal() {
        PinnedPantry x = new PinnedPantry();
        x.setPlaces(4);
        x.fetchAll(0, 1, 3);
        x.fetchAll(0, 1, 3);
        x.fetchAll(4, 39, 2);
        Checks.holds(x, "three are tried", "3|0 1 2|4|");
        Checks.due("next() by a goal of 0", x.next(), 3);
        x.setGoal(2);
        Checks.due("next() by a goal of 2", x.next(), 0);
        x.setGoal(1);
        Checks.due("next() by a goal of 1", x.next(), 3);
    }

    private static void nextNeedsAJarThatIsNotPinned() {
        PinnedPantry x = new PinnedPantry();
        Checks.due("next() without jars", x.next(), -1);
        x.fetch(4);
        Checks.due("next() with one jar", x.next(), 4);
        x.pin(4);
        Checks.due("next() with a pinned jar", x.next(), -1);
        x.fetch(5);
        x.fetch(5);
        Checks.due("next() with a touched jar", x.next(), 5);
    }

    private static void wouldTellsWhatFetchTells() {
        PinnedPantry x = new PinnedPantry();
        x.setPlaces(3);
        x.fetchAll(0, 1, 3);
        x.fetchAll(0, 1, 2);
        x.fetch(3);
        x.setGoal(3);
        x.fetch(4);
        Checks.holds(x, "before", "3 4|1|2|0");
        long before = x.digest();
        Checks.due("would(1)", x.would(1), 0);
        Checks.due("would(9)", x.would(9), 1);
        Checks.due("would(2)", x.would(2), 2);
        Checks.due("would(0)", x.would(0), 3);
        Checks.due("digest() behind would()", x.digest(), before);
    }

    private static void wouldTellsWhatCannotBeFetched() {
        PinnedPantry x = new PinnedPantry();
        x.setPlaces(2);
        x.fetchAll(0, 1, 3);
        x.pin(1);
        Checks.due("would(0)", x.would(0), 2);
        x.pin(2);
        long before = x.digest();
        Checks.due("would(0), remembered", x.would(0), -9);
        Checks.due("would(9)", x.would(9), -9);
        Checks.due("would(1)", x.would(1), 0);
        Checks.due("digest() behind would()", x.digest(), before);
        x.setPlaces(3);
        Checks.due("would(9) with a place free", x.would(9), 1);
    }

    private static void wouldRefusesWrongInputs() {
        PinnedPantry x = new PinnedPantry();
        Checks.due("would(0)", x.would(0), 1);
        Checks.due("would(39)", x.would(39), 1);
        Checks.refused(x, "would(40)", INDEX, () -> x.would(40));
        Checks.refused(x, "would(-1)", INDEX, () -> x.would(-1));
    }

    private static void trialTellsWhatFetchAllTells() {
        PinnedPantry x = new PinnedPantry();
        x.fetchAll(0, 1, 10);
        long before = x.digest();
        int told = x.trial(0, 7, 30);
        Checks.due("trial(4, 1, 6)", x.trial(4, 1, 6), 6);
        Checks.due("trial(5, 0, 30)", x.trial(5, 0, 30), 30);
        Checks.due("trial(20, 0, 30)", x.trial(20, 0, 30), 29);
        Checks.due("digest() behind trial()", x.digest(), before);
        Checks.due("fetchAll(0, 7, 30)", x.fetchAll(0, 7, 30), told);
    }

    /** Remembered by new or by tried, 0 comes to tried, and stays there till it is a hit. */
    private static void trialHeedsTheLists() {
        PinnedPantry x = new PinnedPantry();
        x.setPlaces(2);
        x.fetchAll(0, 1, 3);
        Checks.holds(x, "0 is remembered by new", "1 2||0|");
        Checks.due("trial(0, 10, 5), remembered by new", x.trial(0, 10, 5), 1);
        PinnedPantry y = new PinnedPantry();
        y.setPlaces(2);
        y.fetchAll(0, 1, 3);
        y.fetchAll(0, 5, 2);
        y.setGoal(2);
        y.fetch(6);
        y.setGoal(0);
        Checks.holds(y, "0 is remembered by tried", "5 6||1 2|0");
        Checks.due("trial(0, 10, 5), remembered by tried", y.trial(0, 10, 5), 1);
    }

    private static void trialHeedsThePlaces() {
        PinnedPantry x = new PinnedPantry();
        x.setPlaces(12);
        Checks.due("trial(0, 4, 20), a round of 10", x.trial(0, 4, 20), 10);
        x.setPlaces(2);
        Checks.due("trial(0, 4, 10), no round", x.trial(0, 4, 10), 0);
    }

    private static void adviseFindsTheFewestPlaces() {
        PinnedPantry x = new PinnedPantry();
        long before = x.digest();
        Checks.due("advise(0, 10, 30), a round of 4", x.advise(0, 10, 30), 4);
        Checks.due("advise(0, 0, 30), one kind", x.advise(0, 0, 30), 2);
        Checks.due("advise(0, 1, 30), no hits at all", x.advise(0, 1, 30), 2);
        Checks.due("digest() behind advise()", x.digest(), before);
        PinnedPantry y = new PinnedPantry();
        y.setPlaces(12);
        y.fetchAll(0, 1, 12);
        Checks.due("advise(0, 1, 12), all that are there", y.advise(0, 1, 12), 12);
        Checks.due("advise(11, 0, 1), the last that stays", y.advise(11, 0, 1), 2);
        Checks.due("advise(8, 1, 1), it leaves with 3 places", y.advise(8, 1, 1), 4);
        Checks.due("places behind advise()", y.count(0), 12);
    }

    private static void adviseHeedsPinnedJars() {
        PinnedPantry x = new PinnedPantry();
        x.fetchAll(0, 1, 5);
        for (int kind = 0; kind < 5; kind++) {
            x.pin(kind);
        }
        Checks.due("advise(0, 0, 5)", x.advise(0, 0, 5), 5);
        Checks.due("advise(9, 0, 5)", x.advise(9, 0, 5), 6);
        x.setPlaces(12);
        x.fetchAll(5, 1, 7);
        for (int kind = 5; kind < 12; kind++) {
            x.pin(kind);
        }
        Checks.due("advise(9, 0, 5), all is pinned", x.advise(9, 0, 5), 12);
    }

    private static void trialAndAdviseRefuseWrongInputs() {
        PinnedPantry x = new PinnedPantry();
        x.fetchAll(0, 1, 3);
        Checks.refused(x, "trial(40, 40, 0)", INDEX, () -> x.trial(40, 40, 0));
        Checks.refused(x, "trial(-1, 0, 1)", INDEX, () -> x.trial(-1, 0, 1));
        Checks.refused(x, "trial(0, 40, 1)", ARGUMENT, () -> x.trial(0, 40, 1));
        Checks.refused(x, "trial(0, -1, 1)", ARGUMENT, () -> x.trial(0, -1, 1));
        Checks.refused(x, "trial(0, 0, 0)", ARGUMENT, () -> x.trial(0, 0, 0));
        Checks.refused(x, "trial(0, 0, 31)", ARGUMENT, () -> x.trial(0, 0, 31));
        Checks.refused(x, "advise(40, 40, 0)", INDEX, () -> x.advise(40, 40, 0));
        Checks.refused(x, "advise(-1, 0, 1)", INDEX, () -> x.advise(-1, 0, 1));
        Checks.refused(x, "advise(0, 40, 1)", ARGUMENT, () -> x.advise(0, 40, 1));
        Checks.refused(x, "advise(0, -1, 1)", ARGUMENT, () -> x.advise(0, -1, 1));
        Checks.refused(x, "advise(0, 0, 0)", ARGUMENT, () -> x.advise(0, 0, 0));
        Checks.refused(x, "advise(0, 0, 31)", ARGUMENT, () -> x.advise(0, 0, 31));
    }

    private static void meanOfFetches() {
        PinnedPantry x = new PinnedPantry();
        Checks.due("mean() without jars", x.mean(), 0.0);
        x.fetch(3);
        Checks.due("mean() of one", x.mean(), 1.0);
        x.fetchAll(3, 0, 2);
        x.fetch(4);
        x.fetch(5);
        Checks.due("mean() of 3, 1 and 1", x.mean(), 5.0 / 3.0);
        x.setPlaces(2);
        Checks.due("mean() without those that left", x.mean(), 2.0);
        x.eat(3);
        Checks.due("mean() without the eaten one", x.mean(), 1.0);
        x.eat(5);
        Checks.due("mean() without jars again", x.mean(), 0.0);
        x.fetchAll(0, 39, 2);
        x.fetch(0);
        Checks.due("mean() of the first and the last kind", x.mean(), 1.5);
    }

    private static void digestIsAsTheDocumentSays() {
        PinnedPantry x = new PinnedPantry();
        Checks.due("digest() of a new one", x.digest(), digestOf(x));
        x.fetchAll(0, 1, 6);
        x.fetchAll(0, 1, 3);
        x.pin(4);
        x.fetchAll(30, 3, 8);
        x.setGoal(5);
        x.fetchAll(1, 4, 6);
        Checks.due("tried has given, too", x.count(4) > 0 ? 1 : 0, 1);
        x.fetch(x.shelf(0, 0));
        x.fetch(x.shelf(1, 0));
        Checks.due("digest()", x.digest(), digestOf(x));
    }

    private static long digestOf(PinnedPantry x) {
        long d = 1541;
        for (int what = 0; what <= 10; what++) {
            d = d * 31 + x.count(what);
        }
        for (int shelf = 0; shelf <= 1; shelf++) {
            for (int place = 0; place < x.count(1 + shelf); place++) {
                int kind = x.shelf(shelf, place);
                d = d * 31 + kind;
                for (int what = 2; what <= 4; what++) {
                    d = d * 31 + x.jar(kind, what);
                }
            }
            for (int place = 0; place < x.count(3 + shelf); place++) {
                d = d * 31 + x.ghost(shelf, place);
            }
        }
        return d;
    }
}
