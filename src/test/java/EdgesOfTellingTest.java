import java.math.BigInteger;

/** The boundary cases of jar, shelf, ghost, count, next, would, trial, advise, mean and digest. */
public final class EdgesOfTellingTest {
    private static final Class<?> INDEX = IndexOutOfBoundsException.class;
    private static final Class<?> ARGUMENT = IllegalArgumentException.class;

    private static final String TWELVE_PINNED = "0+1 1+1 2+1 3+1 4+1 5+1|6+1 7+1 8+1 9+1 10+1 11+1||";

    public static void main(String[] args) {
        jarIsMinus1WithoutAJar();
        whatOfAJarIs0To4();
        jarTellsTheFirstAndTheLastPlace();
        shelfHasNoJarBeyondItsLast();
        shelfIs0Or1();
        fullShelves();
        ghostHasNoKindBeyondItsLast();
        ghostShelfIs0Or1();
        fullLists();
        whatOfCountIs0To10();
        countOfAFullPantry();
        countOfHitsAndMissesLeavesOutRefusedOnes();
        countOfLooksTellsThoseThatLeftToo();
        nextIsMinus1WithoutJars();
        nextIsMinus1WithPinnedJarsOnly();
        nextWithOneJarThatIsNotPinned();
        nextChangesNothing();
        wouldTellsWhatFetchWouldTell();
        wouldIsMinus9IfItCannotBeFetched();
        wouldIsNotMinus9IfItCanBeFetched();
        wouldChangesNothing();
        trialTellsWhatFetchAllWouldTell();
        trialLeavesOutWhatCannotBeFetched();
        trialChangesNothing();
        trialRefusesWhatFetchAllRefuses();
        adviseIs2AtLeast();
        adviseIs12AtMost();
        adviseIsPinnedJarsAtLeast();
        adviseIsTheFewestOfSeveral();
        adviseIsWhatSettingShows();
        adviseSweepsAsSetPlacesDoes();
        adviseChangesNothing();
        adviseRefusesWhatFetchAllRefuses();
        meanIs0WithoutJars();
        meanOfOneAndOfMany();
        digestWrapsAround();
        digestTellsEachNumber();
        Checks.end();
    }

    /** jar: "-1 for each of these without a jar", never there, remembered, eaten or left. */
    private static void jarIsMinus1WithoutAJar() {
        PinnedPantry x = Given.pantry(4, 0, "3 5*|4+1 6*|0|1");
        x.eat(5);
        int[] without = {0, 1, 2, 5, 39};
        for (int kind : without) {
            for (int what = 0; what <= 4; what++) {
                Checks.due("jar(" + kind + ", " + what + ")", x.jar(kind, what), -1);
            }
        }
        int[][] with = {{3, 0, 0, 0, 0, 1}, {4, 1, 0, 0, 1, 2}, {6, 1, 1, 1, 0, 3}};
        for (int[] due : with) {
            for (int what = 0; what <= 4; what++) {
                Checks.due("jar(" + due[0] + ", " + what + ")", x.jar(due[0], what), due[what + 1]);
            }
        }
    }

    /** "or what is not 0 to 4", with a jar and without. */
    private static void whatOfAJarIs0To4() {
        PinnedPantry x = Given.pantry(4, 0, "3|4+1|0|1");
        int[] wrong = {-1, 5, Integer.MIN_VALUE, Integer.MAX_VALUE};
        for (int what : wrong) {
            Checks.refused(x, "jar(3, " + what + ")", INDEX, () -> x.jar(3, what));
            Checks.refused(x, "jar(4, " + what + ")", INDEX, () -> x.jar(4, what));
            Checks.refused(x, "jar(5, " + what + "), without a jar", INDEX, () -> x.jar(5, what));
            Checks.refused(x, "jar(40, " + what + ")", INDEX, () -> x.jar(40, what));
        }
    }

    /** "1 its place on it, from 0 (at the hand)": the first and the last one of a full shelf. */
    private static void jarTellsTheFirstAndTheLastPlace() {
        PinnedPantry x = Given.pantry(12, 0, "0 1 2 3 4 5 6 7 8 9 10 39|||");
        Checks.due("jar(0, 1)", x.jar(0, 1), 0);
        Checks.due("jar(39, 1)", x.jar(39, 1), 11);
        PinnedPantry y = Given.pantry(12, 0, "12|0 1 2 3 4 5 6 7 8 9 39||");
        Checks.due("jar(0, 1)", y.jar(0, 1), 0);
        Checks.due("jar(39, 1)", y.jar(39, 1), 10);
        Checks.due("jar(12, 1)", y.jar(12, 1), 0);
    }

    /** shelf: "or no jar is there". */
    private static void shelfHasNoJarBeyondItsLast() {
        PinnedPantry x = Given.pantry(6, 0, "3 5|4|0 1 2|6 7 8");
        Checks.due("shelf(0, 0)", x.shelf(0, 0), 3);
        Checks.due("shelf(0, 1)", x.shelf(0, 1), 5);
        Checks.due("shelf(1, 0)", x.shelf(1, 0), 4);
        int[] wrong = {-1, 2, 6, 12, 40, Integer.MIN_VALUE, Integer.MAX_VALUE};
        for (int place : wrong) {
            Checks.refused(x, "shelf(0, " + place + ")", INDEX, () -> x.shelf(0, place));
            Checks.refused(x, "shelf(1, " + place + ")", INDEX, () -> x.shelf(1, place));
        }
        Checks.refused(x, "shelf(1, 1)", INDEX, () -> x.shelf(1, 1));
        x.eat(5);
        x.eat(4);
        Checks.refused(x, "shelf(0, 1), whose jar was eaten", INDEX, () -> x.shelf(0, 1));
        Checks.refused(x, "shelf(1, 0), whose jar was eaten", INDEX, () -> x.shelf(1, 0));
        PinnedPantry y = new PinnedPantry();
        Checks.refused(y, "shelf(0, 0) of an empty one", INDEX, () -> y.shelf(0, 0));
        Checks.refused(y, "shelf(1, 0) of an empty one", INDEX, () -> y.shelf(1, 0));
    }

    /** shelf: "if shelf is not 0 or 1". */
    private static void shelfIs0Or1() {
        PinnedPantry x = Given.pantry(6, 0, "3 5|4 6|0|1");
        int[] wrong = {-1, 2, Integer.MIN_VALUE, Integer.MAX_VALUE};
        for (int shelf : wrong) {
            Checks.refused(x, "shelf(" + shelf + ", 0)", INDEX, () -> x.shelf(shelf, 0));
            Checks.refused(x, "shelf(" + shelf + ", -1)", INDEX, () -> x.shelf(shelf, -1));
        }
    }

    /** As many jars on a shelf as can be. */
    private static void fullShelves() {
        PinnedPantry x = Given.pantry(12, 0, "0 1 2 3 4 5 6 7 8 9 10 39|||");
        Checks.due("shelf(0, 11)", x.shelf(0, 11), 39);
        Checks.refused(x, "shelf(0, 12)", INDEX, () -> x.shelf(0, 12));
        x.fetchAll(0, 1, 11);
        x.fetch(39);
        x.setPlaces(11);
        Checks.stands(x, "all were touched", "|1 2 3 4 5 6 7 8 9 10 39||0");
        x.setPlaces(12);
        x.fetch(0);
        Checks.due("shelf(1, 11)", x.shelf(1, 11), 0);
        Checks.refused(x, "shelf(1, 12)", INDEX, () -> x.shelf(1, 12));
        Checks.refused(x, "shelf(0, 0)", INDEX, () -> x.shelf(0, 0));
    }

    /** ghost: "or the list has no such place". */
    private static void ghostHasNoKindBeyondItsLast() {
        PinnedPantry x = Given.pantry(6, 0, "3 5 9|4 10 11|0 1|6");
        Checks.due("ghost(0, 0)", x.ghost(0, 0), 0);
        Checks.due("ghost(0, 1)", x.ghost(0, 1), 1);
        Checks.due("ghost(1, 0)", x.ghost(1, 0), 6);
        int[] wrong = {-1, 2, 6, 12, 40, Integer.MIN_VALUE, Integer.MAX_VALUE};
        for (int place : wrong) {
            Checks.refused(x, "ghost(0, " + place + ")", INDEX, () -> x.ghost(0, place));
            Checks.refused(x, "ghost(1, " + place + ")", INDEX, () -> x.ghost(1, place));
        }
        Checks.refused(x, "ghost(1, 1)", INDEX, () -> x.ghost(1, 1));
        PinnedPantry y = Given.pantry(6, 0, "3|4|0|6");
        y.fetch(0);
        y.fetch(6);
        Checks.refused(y, "ghost(0, 0), whose kind was fetched", INDEX, () -> y.ghost(0, 0));
        Checks.refused(y, "ghost(1, 0), whose kind was fetched", INDEX, () -> y.ghost(1, 0));
        PinnedPantry z = new PinnedPantry();
        Checks.refused(z, "ghost(0, 0) of an empty one", INDEX, () -> z.ghost(0, 0));
        Checks.refused(z, "ghost(1, 0) of an empty one", INDEX, () -> z.ghost(1, 0));
    }

    /** ghost: "if shelf is not 0 or 1". */
    private static void ghostShelfIs0Or1() {
        PinnedPantry x = Given.pantry(6, 0, "3|4|0 1|6 7");
        int[] wrong = {-1, 2, Integer.MIN_VALUE, Integer.MAX_VALUE};
        for (int shelf : wrong) {
            Checks.refused(x, "ghost(" + shelf + ", 0)", INDEX, () -> x.ghost(shelf, 0));
            Checks.refused(x, "ghost(" + shelf + ", -1)", INDEX, () -> x.ghost(shelf, -1));
        }
    }

    /** As many kinds in each list as can be, and in one of two places. */
    private static void fullLists() {
        PinnedPantry x = Given.pantry(12, 0, "||0 1 2 3 4 5 6 7 8 9 10 11|12 13 14 15 16 17 18 19 20 21 22 39");
        Checks.due("ghost(0, 0)", x.ghost(0, 0), 0);
        Checks.due("ghost(0, 11)", x.ghost(0, 11), 11);
        Checks.due("ghost(1, 0)", x.ghost(1, 0), 12);
        Checks.due("ghost(1, 11)", x.ghost(1, 11), 39);
        Checks.refused(x, "ghost(0, 12)", INDEX, () -> x.ghost(0, 12));
        Checks.refused(x, "ghost(1, 12)", INDEX, () -> x.ghost(1, 12));
        x.setPlaces(2);
        Checks.due("ghost(0, 1) of 2 places", x.ghost(0, 1), 11);
        Checks.due("ghost(1, 1) of 2 places", x.ghost(1, 1), 39);
        Checks.refused(x, "ghost(0, 2) of 2 places", INDEX, () -> x.ghost(0, 2));
        Checks.refused(x, "ghost(1, 2) of 2 places", INDEX, () -> x.ghost(1, 2));
    }

    /** count: "if what is not 0 to 10". */
    private static void whatOfCountIs0To10() {
        PinnedPantry x = Given.pantry(6, 5, "3+1 5|4+1 7+2|0|1 2");
        Checks.due("count(0)", x.count(0), 6);
        Checks.due("count(10)", x.count(10), 3);
        int[] wrong = {-1, 11, Integer.MIN_VALUE, Integer.MAX_VALUE};
        for (int what : wrong) {
            Checks.refused(x, "count(" + what + ")", INDEX, () -> x.count(what));
        }
    }

    /** Places, jars, lists, goal and pinned jars, as many as can be. */
    private static void countOfAFullPantry() {
        PinnedPantry x = Given.pantry(12, 12, TWELVE_PINNED);
        int[] due = {12, 6, 6, 0, 0, 12};
        for (int what = 0; what <= 5; what++) {
            Checks.due("count(" + what + ")", x.count(what), due[what]);
        }
        Checks.due("count(10)", x.count(10), 12);
        PinnedPantry y = Given.pantry(12, 0, "||0 1 2 3 4 5 6 7 8 9 10 11|12 13 14 15 16 17 18 19 20 21 22 23");
        Checks.due("count(3)", y.count(3), 12);
        Checks.due("count(4)", y.count(4), 12);
    }

    /** "6 hits in all, 7 misses in all, 8 those of them that were remembered": what cannot be fetched is none. */
    private static void countOfHitsAndMissesLeavesOutRefusedOnes() {
        PinnedPantry x = new PinnedPantry();
        x.setPlaces(2);
        x.fetchAll(0, 1, 3);
        dueFetches(x, "three misses", 0, 3, 0);
        x.fetchAll(2, 0, 2);
        dueFetches(x, "two hits", 2, 3, 0);
        x.fetch(0);
        dueFetches(x, "one that was remembered by new", 2, 4, 1);
        x.setGoal(2);
        x.fetch(9);
        x.fetch(0);
        dueFetches(x, "one that was remembered by tried", 2, 6, 2);
        x.pin(2);
        x.pin(0);
        Checks.refused(x, "fetch(5)", IllegalStateException.class, () -> x.fetch(5));
        Checks.due("fetchAll(11, 1, 30)", x.fetchAll(11, 1, 30), 1);
        dueFetches(x, "29 that were left out, and a hit", 3, 6, 2);
    }

    private static void dueFetches(PinnedPantry x, String when, int hits, int misses, int remembered) {
        Checks.due("hits behind " + when, x.count(6), hits);
        Checks.due("misses behind " + when, x.count(7), misses);
        Checks.due("remembered behind " + when, x.count(8), remembered);
    }

    /** "9 how often jars were looked at by sweeping in all (those that left, too)". */
    private static void countOfLooksTellsThoseThatLeftToo() {
        PinnedPantry x = new PinnedPantry();
        x.fetchAll(0, 1, 6);
        Checks.due("looks without sweeping", x.count(9), 0);
        x.fetch(6);
        Checks.due("looks, at one that left", x.count(9), 1);
        x.pin(1);
        x.fetch(2);
        x.fetch(7);
        Checks.due("looks, at a pinned one, a touched one, and one that left", x.count(9), 4);
        x.setPlaces(5);
        Checks.due("looks by setPlaces()", x.count(9), 5);
    }

    /** next: "-1 if there is no jar that is not pinned": no jar at all. */
    private static void nextIsMinus1WithoutJars() {
        PinnedPantry x = new PinnedPantry();
        Checks.due("next() of a new one", x.next(), -1);
        PinnedPantry y = Given.pantry(3, 3, "||0 1|2");
        Checks.due("next() without jars", y.next(), -1);
        PinnedPantry z = Given.pantry(3, 0, "3|||");
        z.eat(3);
        Checks.due("next(), as the only jar was eaten", z.next(), -1);
    }

    /** The same: all jars are pinned, with places free and without. */
    private static void nextIsMinus1WithPinnedJarsOnly() {
        String[] states = {"3+1|||", "|3+9||", "3+1|4*+1||", "3*+2 5+1|4+1 6+1||"};
        for (String state : states) {
            for (int goal = 0; goal <= 4; goal += 2) {
                PinnedPantry x = Given.pantry(4, goal, state);
                Checks.unchanged(x, "next()", () -> Checks.due("next() of " + state, x.next(), -1));
            }
        }
        PinnedPantry y = Given.pantry(12, 0, TWELVE_PINNED);
        Checks.due("next() of twelve pinned", y.next(), -1);
    }

    /** The same: one jar is not pinned, touched or not, on new or on tried. */
    private static void nextWithOneJarThatIsNotPinned() {
        String[] states = {"3|||", "|3||", "3*|||", "|3*||", "4+1 3|5+1||", "4+1|5+1 3||", "4+1 3*|5+1||",
            "4+1|3* 5+1||"};
        for (String state : states) {
            for (int goal = 0; goal <= 4; goal += 2) {
                PinnedPantry x = Given.pantry(4, goal, state);
                Checks.due("next() of " + state + " by " + goal, x.next(), 3);
            }
        }
        PinnedPantry y = Given.pantry(12, 12, TWELVE_PINNED);
        y.unpin(8);
        Checks.due("next() of eleven pinned", y.next(), 8);
    }

    /** "(nothing is changed)". */
    private static void nextChangesNothing() {
        PinnedPantry x = Given.pantry(4, 2, "3* 5+1|4*+1 6*|0 1|2");
        Checks.unchanged(x, "next()", () -> Checks.due("next() and next() again", x.next(), x.next()));
        Checks.stands(x, "behind next()", "3* 5+1|4*+1 6*|0 1|2");
        int next = x.next();
        x.fetch(10);
        Checks.due("jar() of the one that was told", x.jar(next, 0), -1);
    }

    /** would: "Returns what fetch() would tell", each of its answers. */
    private static void wouldTellsWhatFetchWouldTell() {
        PinnedPantry x = Given.pantry(2, 1, "3+1|4|0|1");
        int[][] due = {{3, 0}, {4, 0}, {5, 1}, {0, 2}, {1, 3}};
        for (int[] row : due) {
            Checks.due("would(" + row[0] + ")", x.would(row[0]), row[1]);
        }
        for (int[] row : due) {
            PinnedPantry y = Given.pantry(2, 1, "3+1|4|0|1");
            Checks.due("fetch(" + row[0] + ")", y.fetch(row[0]), row[1]);
        }
    }

    /** "-9 if it cannot be fetched". */
    private static void wouldIsMinus9IfItCannotBeFetched() {
        PinnedPantry x = Given.pantry(2, 1, "3+1|4+1|0|1");
        int[] kinds = {0, 1, 2, 5, 39};
        for (int kind : kinds) {
            Checks.unchanged(x, "would()", () -> Checks.due("would(" + kind + ")", x.would(kind), -9));
        }
        PinnedPantry y = Given.pantry(12, 0, TWELVE_PINNED);
        Checks.due("would(12) of twelve pinned", y.would(12), -9);
    }

    /** The same, but for one of the three: a jar is there, a place is free, or a jar is not pinned. */
    private static void wouldIsNotMinus9IfItCanBeFetched() {
        PinnedPantry there = Given.pantry(2, 0, "3+1|4+1||");
        Checks.due("would(3), which is there", there.would(3), 0);
        Checks.due("would(4), which is there", there.would(4), 0);
        PinnedPantry free = Given.pantry(3, 0, "3+1|4+1|0|1");
        Checks.due("would(5), with a place free", free.would(5), 1);
        Checks.due("would(0), with a place free", free.would(0), 2);
        Checks.due("would(1), with a place free", free.would(1), 3);
        PinnedPantry loose = Given.pantry(2, 0, "3+1|4*|0|1");
        Checks.due("would(5), one is not pinned", loose.would(5), 1);
        Checks.due("would(0), one is not pinned", loose.would(0), 2);
        Checks.due("would(1), one is not pinned", loose.would(1), 3);
    }

    /** "(nothing is changed)". */
    private static void wouldChangesNothing() {
        PinnedPantry x = Given.pantry(4, 2, "3* 5+1|4*+1 6*|0 1|2");
        Checks.unchanged(x, "would() of each kind", () -> {
            for (int kind = 0; kind < 40; kind++) {
                x.would(kind);
            }
        });
        Checks.stands(x, "behind would()", "3* 5+1|4*+1 6*|0 1|2");
    }

    /** trial: "Returns what fetchAll() would tell", by the first and the last step and many. */
    private static void trialTellsWhatFetchAllWouldTell() {
        int[] numbers = {0, 1, 20, 38, 39};
        int[] manys = {1, 2, 29, 30};
        for (int from : numbers) {
            for (int step : numbers) {
                for (int many : manys) {
                    PinnedPantry x = Given.pantry(4, 2, "3* 5+1|39*+1 6*|0 1|2");
                    int told = x.trial(from, step, many);
                    String call = "(" + from + ", " + step + ", " + many + ")";
                    Checks.due("trial" + call, told, x.fetchAll(from, step, many));
                }
            }
        }
    }

    /** The same: what cannot be fetched is no hit, and those behind it are tried. */
    private static void trialLeavesOutWhatCannotBeFetched() {
        PinnedPantry x = Given.pantry(2, 1, "2+1|4+1|0|1");
        Checks.due("trial(0, 1, 5)", x.trial(0, 1, 5), 2);
        Checks.due("trial(5, 1, 30)", x.trial(5, 1, 30), 0);
        Checks.due("trial(2, 2, 30)", x.trial(2, 2, 30), 4);
    }

    /** "(nothing is changed)". */
    private static void trialChangesNothing() {
        PinnedPantry x = Given.pantry(4, 2, "3* 5+1|4*+1 6*|0 1|2");
        Checks.unchanged(x, "trial()", () -> {
            x.trial(0, 1, 30);
            x.trial(3, 0, 1);
            x.trial(39, 39, 30);
        });
        Checks.stands(x, "behind trial()", "3* 5+1|4*+1 6*|0 1|2");
    }

    /** "if from is not 0 to 39"; "if step is not 0 to 39, or many is not 1 to 30"; the first that is named. */
    private static void trialRefusesWhatFetchAllRefuses() {
        PinnedPantry x = Given.pantry(3, 1, "3*|4+1|0|1");
        int[] beyond = {-1, 40, Integer.MIN_VALUE, Integer.MAX_VALUE};
        for (int wrong : beyond) {
            Checks.refused(x, "trial(" + wrong + ", 0, 1)", INDEX, () -> x.trial(wrong, 0, 1));
            Checks.refused(x, "trial(0, " + wrong + ", 1)", ARGUMENT, () -> x.trial(0, wrong, 1));
            Checks.refused(x, "trial(" + wrong + ", 40, 0)", INDEX, () -> x.trial(wrong, 40, 0));
        }
        int[] manys = {0, -1, 31, Integer.MIN_VALUE, Integer.MAX_VALUE};
        for (int many : manys) {
            Checks.refused(x, "trial(0, 0, " + many + ")", ARGUMENT, () -> x.trial(0, 0, many));
            Checks.refused(x, "trial(40, 0, " + many + ")", INDEX, () -> x.trial(40, 0, many));
        }
    }

    /** advise: "2 to 12": 2, if that has all the hits that can be. */
    private static void adviseIs2AtLeast() {
        PinnedPantry x = new PinnedPantry();
        Checks.due("advise(0, 20, 30), a round of 2", x.advise(0, 20, 30), 2);
        PinnedPantry y = Given.pantry(12, 0, "0 1 2 3 4 5 6 7 8 9 10 11|||");
        Checks.due("advise(10, 1, 2), the last two of twelve", y.advise(10, 1, 2), 2);
        Checks.due("advise(9, 1, 3), the last three of twelve", y.advise(9, 1, 3), 3);
    }

    /** The same: 12, if only that has them, and no more by a round of 13. */
    private static void adviseIs12AtMost() {
        PinnedPantry x = Given.pantry(12, 0, "0 1 2 3 4 5 6 7 8 9 10 11|||");
        Checks.due("advise(0, 0, 1), the first of twelve", x.advise(0, 0, 1), 12);
        Checks.due("advise(1, 0, 1), the second of twelve", x.advise(1, 0, 1), 11);
        PinnedPantry y = new PinnedPantry();
        Checks.due("advise(0, 4, 30), a round of 10", y.advise(0, 4, 30), 10);
        Checks.due("advise(0, 1, 13), no round", y.advise(0, 1, 13), 2);
    }

    /** "less than there are pinned jars cannot be set": as many can. */
    private static void adviseIsPinnedJarsAtLeast() {
        for (int pinned = 0; pinned <= 12; pinned++) {
            PinnedPantry x = new PinnedPantry();
            x.setPlaces(12);
            for (int kind = 0; kind < pinned; kind++) {
                x.fetch(kind);
                x.pin(kind);
            }
            int fewest = pinned < 2 ? 2 : pinned;
            int oneMore = pinned < 1 ? 2 : pinned < 12 ? pinned + 1 : 12;
            Checks.due("advise(20, 1, 3) with " + pinned + " pinned", x.advise(20, 1, 3), fewest);
            Checks.due("advise(20, 0, 3) with " + pinned + " pinned", x.advise(20, 0, 3), oneMore);
        }
        PinnedPantry both = Given.pantry(6, 0, "3+1 5+1|4+1 6+1||");
        Checks.due("advise(9, 1, 2) with 2 and 2 pinned", both.advise(9, 1, 2), 4);
        PinnedPantry pins = Given.pantry(6, 0, "3+9|||");
        Checks.due("advise(9, 1, 2) with 9 pins in one jar", pins.advise(9, 1, 2), 2);
    }

    /** "of several the fewest". */
    private static void adviseIsTheFewestOfSeveral() {
        PinnedPantry x = new PinnedPantry();
        Checks.due("advise(0, 0, 1), no hits by any", x.advise(0, 0, 1), 2);
        Checks.due("advise(0, 0, 30), 29 hits by each", x.advise(0, 0, 30), 2);
        Checks.due("advise(0, 8, 30), 25 hits from 5 on", x.advise(0, 8, 30), 5);
        PinnedPantry y = Given.pantry(12, 0, "3 4 5 6||0 1|");
        Checks.due("advise(5, 1, 2), hits from 2 on", y.advise(5, 1, 2), 2);
        Checks.due("advise(3, 1, 4), all hits from 4 on", y.advise(3, 1, 4), 4);
    }

    /** "Looks for the places that had best be set now, so that fetchAll() has the most hits then". */
    private static void adviseIsWhatSettingShows() {
        String[] states = {"3* 5+1 7|4*+1 6* 8|0 1 2|9 10", "0 1 2 3|4 5|6 7 8 9 10|11", "|0* 1* 2 3||4 5 6 7"};
        int[][] rows = {{0, 1, 30}, {0, 3, 30}, {1, 7, 20}, {2, 39, 12}, {3, 13, 30}, {39, 10, 9}};
        for (String state : states) {
            for (int goal = 0; goal <= 6; goal += 3) {
                for (int[] row : rows) {
                    String of = "advise(" + row[0] + ", " + row[1] + ", " + row[2] + ") of " + state;
                    int best = bestBySetting(state, goal, row);
                    Checks.due(of, Given.pantry(6, goal, state).advise(row[0], row[1], row[2]), best);
                }
            }
        }
    }

    /** None of the states has more than two pinned jars, so that each number of places can be set. */
    private static int bestBySetting(String state, int goal, int[] row) {
        int best = 0;
        int most = -1;
        for (int places = 2; places <= 12; places++) {
            PinnedPantry x = Given.pantry(6, goal, state);
            x.setPlaces(places);
            int hits = x.fetchAll(row[0], row[1], row[2]);
            if (hits > most) {
                most = hits;
                best = places;
            }
        }
        return best;
    }

    /** The same: fewer places sweep by the goal as it was, and cut the goal and the lists then. */
    private static void adviseSweepsAsSetPlacesDoes() {
        PinnedPantry x = Given.pantry(6, 4, "3 4 5|6 7 8||");
        Checks.due("advise(3, 1, 3), as tried gives", x.advise(3, 1, 3), 3);
        Checks.due("advise(6, 1, 3), as tried gives", x.advise(6, 1, 3), 6);
        PinnedPantry y = Given.pantry(6, 3, "3 4 5|6 7 8||");
        Checks.due("advise(3, 1, 3), as new gives", y.advise(3, 1, 3), 6);
    }

    /** "(nothing is changed)". */
    private static void adviseChangesNothing() {
        PinnedPantry x = Given.pantry(4, 4, "3* 5+1|4*+1 6*|0 1|2");
        Checks.unchanged(x, "advise()", () -> {
            x.advise(0, 1, 30);
            x.advise(3, 0, 1);
            x.advise(39, 39, 30);
        });
        Checks.stands(x, "behind advise()", "3* 5+1|4*+1 6*|0 1|2");
        Checks.due("places", x.count(0), 4);
        Checks.due("goal", x.count(5), 4);
    }

    /** "if from is not 0 to 39"; "if step is not 0 to 39, or many is not 1 to 30"; the first that is named. */
    private static void adviseRefusesWhatFetchAllRefuses() {
        PinnedPantry x = Given.pantry(3, 1, "3*|4+1|0|1");
        int[] beyond = {-1, 40, Integer.MIN_VALUE, Integer.MAX_VALUE};
        for (int wrong : beyond) {
            Checks.refused(x, "advise(" + wrong + ", 0, 1)", INDEX, () -> x.advise(wrong, 0, 1));
            Checks.refused(x, "advise(0, " + wrong + ", 1)", ARGUMENT, () -> x.advise(0, wrong, 1));
            Checks.refused(x, "advise(" + wrong + ", 40, 0)", INDEX, () -> x.advise(wrong, 40, 0));
        }
        int[] manys = {0, -1, 31, Integer.MIN_VALUE, Integer.MAX_VALUE};
        for (int many : manys) {
            Checks.refused(x, "advise(0, 0, " + many + ")", ARGUMENT, () -> x.advise(0, 0, many));
            Checks.refused(x, "advise(40, 0, " + many + ")", INDEX, () -> x.advise(40, 0, many));
        }
        Checks.due("advise(0, 39, 1)", x.advise(0, 39, 1), 2);
        Checks.due("advise(39, 0, 30)", x.advise(39, 0, 30), 2);
    }

    /** mean: "0 without any": never any, eaten, or remembered only. */
    private static void meanIs0WithoutJars() {
        PinnedPantry x = new PinnedPantry();
        Checks.due("mean() of a new one", x.mean(), 0.0);
        x.fetchAll(39, 0, 9);
        x.eat(39);
        Checks.due("mean(), as the only jar was eaten", x.mean(), 0.0);
        PinnedPantry y = Given.pantry(3, 0, "||0 1|2");
        Checks.due("mean() of remembered ones", y.mean(), 0.0);
    }

    /** The same, with one jar, and with as many as can be; it is not cut. */
    private static void meanOfOneAndOfMany() {
        PinnedPantry x = new PinnedPantry();
        x.fetch(0);
        Checks.due("mean() of 1", x.mean(), 1.0);
        x.fetch(0);
        Checks.due("mean() of 2", x.mean(), 2.0);
        x.fetch(39);
        Checks.due("mean() of 2 and 1", x.mean(), 1.5);
        PinnedPantry y = Given.pantry(12, 0, "0 1 2 3 4 5|6 7 8 9 10 11||");
        Checks.due("mean() of six times 1 and six times 2", y.mean(), 1.5);
        y.fetch(11);
        Checks.due("mean() of 19 / 12", y.mean(), 19.0 / 12.0);
    }

    /** digest: "which wraps around as a 64-bit integer": beyond both ends. */
    private static void digestWrapsAround() {
        PinnedPantry x = new PinnedPantry();
        Checks.due("digest() of a new one", x.digest(), 2265892519662626145L);
        Checks.due("it has wrapped around", exact(x).bitLength() > 63 ? 1 : 0, 1);
        int below = 0;
        int above = 0;
        for (int kind = 0; kind < 12; kind++) {
            PinnedPantry y = new PinnedPantry();
            y.setPlaces(12);
            y.fetchAll(0, 1, kind + 1);
            y.fetch(kind);
            long digest = y.digest();
            Checks.due("digest() with " + (kind + 1) + " jars", digest, exact(y).longValue());
            below += digest < 0 ? 1 : 0;
            above += digest > 0 ? 1 : 0;
        }
        Checks.due("some are below 0, and some above", below > 0 && above > 0 ? 1 : 0, 1);
    }

    /** The same, without any wrapping: its last 64 bits are what is due. */
    private static BigInteger exact(PinnedPantry x) {
        BigInteger d = BigInteger.valueOf(1541);
        for (int what = 0; what <= 10; what++) {
            d = with(d, x.count(what));
        }
        for (int shelf = 0; shelf <= 1; shelf++) {
            for (int place = 0; place < x.count(1 + shelf); place++) {
                int kind = x.shelf(shelf, place);
                d = with(d, kind);
                for (int what = 2; what <= 4; what++) {
                    d = with(d, x.jar(kind, what));
                }
            }
            for (int place = 0; place < x.count(3 + shelf); place++) {
                d = with(d, x.ghost(shelf, place));
            }
        }
        return d;
    }

    private static BigInteger with(BigInteger d, int number) {
        return d.multiply(BigInteger.valueOf(31)).add(BigInteger.valueOf(number));
    }

    /** Empty and full shelves and lists, each with its own numbers. */
    private static void digestTellsEachNumber() {
        String[] states = {"|||", "3|||", "|3||", "||3|", "|||3", "3|4||", "3*|4+9|0|1", "3+1 5*|4* 6+2|0 1|2 7",
            TWELVE_PINNED, "||0 1 2 3 4 5 6 7 8 9 10 11|12 13 14 15 16 17 18 19 20 21 22 23"};
        for (String state : states) {
            for (int goal = 0; goal <= 12; goal += 6) {
                PinnedPantry x = Given.pantry(12, goal, state);
                Checks.due("digest() of " + state, x.digest(), exact(x).longValue());
            }
        }
    }
}
