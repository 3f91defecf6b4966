/** The boundary cases of "Fetching a kind", of fetch and of fetchAll, one test for each sentence that names some. */
public final class EdgesOfFetchingTest {
    private static final Class<?> INDEX = IndexOutOfBoundsException.class;
    private static final Class<?> ARGUMENT = IllegalArgumentException.class;
    private static final Class<?> STATE = IllegalStateException.class;

    public static void main(String[] args) {
        aHitTouchesAndSweepsNothing();
        goalTurnsByACutQuotient();
        goalTurnsByOneAtLeast();
        goalTurnsByOneByAnEmptyOtherList();
        goalTurnsByTheLongestOtherList();
        theKindIsStillInItsListThen();
        goalGoesUpToThePlacesAtMost();
        goalGoesDownTo0AtLeast();
        theKindIsTakenOutOfItsList();
        theKindIsTakenOutBeforeTheSweeping();
        goalTurnsBeforeTheSweeping();
        goalTurnsWithAPlaceFree();
        sweepingNeedsAllPlacesTaken();
        oneJarLeavesAndNoMore();
        theNewJarIsPutAtTheEnd();
        whatCannotBeFetched();
        whatCanBeFetchedAllTheSame();
        fetchAnswers0To3();
        fetchNamesTheWrongKindFirst();
        newObjectIsEmpty();
        remainderOf40();
        fromIs0To39();
        stepIs0To39();
        manyIs1To30();
        wrongKindIsNamedBeforeWrongNumbers();
        someAreLeftOut();
        allAreLeftOut();
        fetchAllGoesOnBehindALeftOutOne();
        Checks.end();
    }

    /** "if there is a jar of it, this is touched, and was fetched once more (a hit)", by a full pantry too. */
    private static void aHitTouchesAndSweepsNothing() {
        PinnedPantry x = Given.pantry(2, 1, "3|4+1|0|1");
        int hits = x.count(6);
        int misses = x.count(7);
        int looks = x.count(9);
        Checks.due("fetch(3)", x.fetch(3), 0);
        Checks.due("fetch(4)", x.fetch(4), 0);
        Checks.stands(x, "two hits", "3*|4*+1|0|1");
        Checks.due("goal", x.count(5), 1);
        Checks.due("hits", x.count(6) - hits, 2);
        Checks.due("misses", x.count(7) - misses, 0);
        Checks.due("looks", x.count(9) - looks, 0);
    }

    private static void goalBehind(String state, int goal, int kind, int want) {
        PinnedPantry x = Given.pantry(12, goal, state);
        x.fetch(kind);
        Checks.due("goal behind " + state + ", " + goal + ", fetch(" + kind + ")", x.count(5), want);
    }

    /** "the goal turns by the length of the other list / the length of this one (cut". */
    private static void goalTurnsByACutQuotient() {
        goalBehind("||0 1|5 6 7 8", 6, 0, 8);
        goalBehind("||0 1|5 6 7 8 9", 6, 0, 8);
        goalBehind("||0 1|5 6 7 8 9 10", 6, 0, 9);
        goalBehind("||5 6 7 8|0 1", 6, 0, 4);
        goalBehind("||5 6 7 8 9|0 1", 6, 0, 4);
        goalBehind("||5 6 7 8 9 10|0 1", 6, 0, 3);
    }

    /** "at least 1". */
    private static void goalTurnsByOneAtLeast() {
        goalBehind("||0 1 2|5 6", 6, 0, 7);
        goalBehind("||0 1 2|5 6 7", 6, 0, 7);
        goalBehind("||5 6|0 1 2", 6, 0, 5);
        goalBehind("||5 6 7|0 1 2", 6, 0, 5);
        goalBehind("||0 1 2 3 4 5 6 7 8 9 10 11|12", 6, 11, 7);
        goalBehind("||12|0 1 2 3 4 5 6 7 8 9 10 11", 6, 11, 5);
    }

    /** "so 1 by an empty other one". */
    private static void goalTurnsByOneByAnEmptyOtherList() {
        goalBehind("||0|", 6, 0, 7);
        goalBehind("||0 1 2|", 6, 2, 7);
        goalBehind("|||0", 6, 0, 5);
        goalBehind("|||0 1 2", 6, 2, 5);
    }

    /** A list of one kind, and the other one as long as can be. */
    private static void goalTurnsByTheLongestOtherList() {
        goalBehind("||12|0 1 2 3 4 5 6 7 8 9 10 11", 0, 12, 12);
        goalBehind("||0 1 2 3 4 5 6 7 8 9 10 11|12", 12, 12, 0);
        goalBehind("||12|0 1 2 3 4 5 6 7 8 9 10", 0, 12, 11);
        goalBehind("||0 1 2 3 4 5 6 7 8 9 10|12", 12, 12, 1);
    }

    /** "with the kind still in it": 3 / 2 is 1, where 3 / 1 were 3; and 2 / 1 is 2. */
    private static void theKindIsStillInItsListThen() {
        goalBehind("||0 1|5 6 7", 6, 0, 7);
        goalBehind("||5 6 7|0 1", 6, 0, 5);
        goalBehind("||0|5 6", 6, 0, 8);
        goalBehind("||5 6|0", 6, 0, 4);
    }

    /** "up, for the list of new, at most to the places". */
    private static void goalGoesUpToThePlacesAtMost() {
        goalBehind("||0|5 6 7", 8, 0, 11);
        goalBehind("||0|5 6 7", 9, 0, 12);
        goalBehind("||0|5 6 7", 10, 0, 12);
        goalBehind("||0|5", 11, 0, 12);
        goalBehind("||0|5", 12, 0, 12);
        PinnedPantry x = Given.pantry(2, 2, "3|4|0|");
        x.fetch(0);
        Checks.due("goal by 2 places", x.count(5), 2);
        PinnedPantry y = Given.pantry(2, 1, "3|4|0|5 6");
        y.fetch(0);
        Checks.due("goal by 2 places, from 1 up by 2", y.count(5), 2);
    }

    /** "down, for that of tried, at least to 0". */
    private static void goalGoesDownTo0AtLeast() {
        goalBehind("||5 6 7|0", 4, 0, 1);
        goalBehind("||5 6 7|0", 3, 0, 0);
        goalBehind("||5 6 7|0", 2, 0, 0);
        goalBehind("||5|0", 1, 0, 0);
        goalBehind("||5|0", 0, 0, 0);
    }

    /** "Then the kind is taken out of the list: it was remembered." The eldest, the last and the only one. */
    private static void theKindIsTakenOutOfItsList() {
        String[] fresh = {"|0|1 2|", "|1|0 2|", "|2|0 1|"};
        String[] tried = {"|0||1 2", "|1||0 2", "|2||0 1"};
        for (int kind = 0; kind <= 2; kind++) {
            PinnedPantry x = Given.pantry(3, 0, "||0 1 2|");
            int remembered = x.count(8);
            Checks.due("fetch(" + kind + ") from the list of new", x.fetch(kind), 2);
            Checks.stands(x, "fetched from the list of new", fresh[kind]);
            Checks.due("remembered", x.count(8) - remembered, 1);
            PinnedPantry y = Given.pantry(3, 0, "|||0 1 2");
            remembered = y.count(8);
            Checks.due("fetch(" + kind + ") from the list of tried", y.fetch(kind), 3);
            Checks.stands(y, "fetched from the list of tried", tried[kind]);
            Checks.due("remembered", y.count(8) - remembered, 1);
        }
        PinnedPantry only = Given.pantry(2, 0, "||0|1");
        only.fetch(0);
        only.fetch(1);
        Checks.stands(only, "both lists are empty then", "|0 1||");
    }

    /** The same: by a full list the kind makes room for the one that leaves, and no other is forgotten. */
    private static void theKindIsTakenOutBeforeTheSweeping() {
        PinnedPantry x = Given.pantry(3, 0, "3 4 5||0 1 2|");
        x.fetch(1);
        Checks.stands(x, "a full list of new", "4 5|1|0 2 3|");
        PinnedPantry y = Given.pantry(3, 3, "|3 4 5||0 1 2");
        y.fetch(1);
        Checks.stands(y, "a full list of tried", "|4 5 1||0 2 3");
        PinnedPantry z = Given.pantry(3, 0, "3 4 5||0 1 2|6");
        z.fetch(6);
        Checks.stands(z, "the other list is full", "4 5|6|1 2 3|");
    }

    /** Step 1 is ahead of step 2: the sweeping goes by the goal that was turned. */
    private static void goalTurnsBeforeTheSweeping() {
        PinnedPantry up = Given.pantry(3, 1, "3|4 5|0|1");
        up.fetch(0);
        Checks.stands(up, "by a goal of 2, tried gave", "3|5 0||1 4");
        PinnedPantry down = Given.pantry(3, 2, "3|4 5|0|1");
        down.fetch(1);
        Checks.stands(down, "by a goal of 1, new gave", "|4 5 1|0 3|");
    }

    /** The goal turns without any sweeping, too. */
    private static void goalTurnsWithAPlaceFree() {
        PinnedPantry x = Given.pantry(2, 0, "3||0|");
        int looks = x.count(9);
        Checks.due("fetch(0)", x.fetch(0), 2);
        Checks.stands(x, "with a place free", "3|0||");
        Checks.due("goal", x.count(5), 1);
        Checks.due("looks", x.count(9) - looks, 0);
    }

    /** "If all places are taken, the pantry is swept": with one free it is not. */
    private static void sweepingNeedsAllPlacesTaken() {
        PinnedPantry x = Given.pantry(4, 0, "3|4 5||");
        int looks = x.count(9);
        x.fetch(6);
        Checks.stands(x, "one was free", "3 6|4 5||");
        Checks.due("looks", x.count(9) - looks, 0);
        x.fetch(7);
        Checks.stands(x, "none was free", "6 7|4 5|3|");
        Checks.due("looks", x.count(9) - looks, 1);
        x.eat(4);
        x.fetch(8);
        Checks.stands(x, "one was eaten", "6 7 8|5|3|");
        Checks.due("looks", x.count(9) - looks, 1);
    }

    /** "till one leaves". */
    private static void oneJarLeavesAndNoMore() {
        PinnedPantry x = Given.pantry(4, 0, "3* 4 5|6||");
        x.fetch(7);
        Checks.stands(x, "one left", "5 7|6 3|4|");
        Checks.due("all places are taken again", x.count(1) + x.count(2), 4);
    }

    /** "A new jar of the kind, not touched, is put at the end of a shelf: of tried, if it was remembered, otherwise of new." */
    private static void theNewJarIsPutAtTheEnd() {
        PinnedPantry x = Given.pantry(6, 0, "3|4|0|1");
        x.fetch(2);
        x.fetch(0);
        x.fetch(1);
        Checks.stands(x, "2 not remembered, 0 and 1 remembered", "3 2|4 0 1||");
        PinnedPantry y = Given.pantry(2, 0, "3 4*|||");
        y.eat(4);
        y.fetch(4);
        Checks.stands(y, "4 had been touched", "3 4|||");
    }

    /** "It cannot be fetched, if there is no jar of it, all places are taken, and all jars are pinned; then nothing changes." */
    private static void whatCannotBeFetched() {
        String[] states = {"3+1 4+9||0|1", "3+1|4*+1|0|1", "|3+1 4+1|0|1"};
        for (String state : states) {
            PinnedPantry x = Given.pantry(2, 1, state);
            int misses = x.count(7);
            Checks.refused(x, "fetch(5)", STATE, () -> x.fetch(5));
            Checks.refused(x, "fetch(0), remembered by new", STATE, () -> x.fetch(0));
            Checks.refused(x, "fetch(1), remembered by tried", STATE, () -> x.fetch(1));
            Checks.refused(x, "fetch(39)", STATE, () -> x.fetch(39));
            Checks.stands(x, "nothing was fetched", state);
            Checks.due("goal", x.count(5), 1);
            Checks.due("misses", x.count(7) - misses, 0);
        }
        PinnedPantry y = Given.pantry(12, 0, "0+1 1+1 2+1 3+1 4+1 5+1|6+1 7+1 8+1 9+1 10+1 11+1||");
        Checks.refused(y, "fetch(12), with twelve pinned", STATE, () -> y.fetch(12));
    }

    /** The same, but for one of the three: a jar is there, a place is free, or a jar is not pinned. */
    private static void whatCanBeFetchedAllTheSame() {
        PinnedPantry there = Given.pantry(2, 0, "3+1|4+1||");
        Checks.due("fetch(3), which is there", there.fetch(3), 0);
        Checks.due("fetch(4), which is there", there.fetch(4), 0);
        PinnedPantry free = Given.pantry(3, 0, "3+1|4+1||");
        Checks.due("fetch(5), with a place free", free.fetch(5), 1);
        Checks.stands(free, "with a place free", "3+1 5|4+1||");
        PinnedPantry fresh = Given.pantry(2, 0, "3|4+1||");
        Checks.due("fetch(5), one on new is not pinned", fresh.fetch(5), 1);
        Checks.stands(fresh, "one on new was not pinned", "5|4+1|3|");
        PinnedPantry tried = Given.pantry(2, 0, "3+1|4||");
        Checks.due("fetch(5), one on tried is not pinned", tried.fetch(5), 1);
        Checks.stands(tried, "one on tried was not pinned", "3+1 5|||4");
        PinnedPantry none = Given.pantry(2, 0, "|||");
        Checks.due("fetch(5), without jars", none.fetch(5), 1);
    }

    /** "Returns 0 for a hit, 1 if it was not remembered, 2 if the list of new had it, 3 if that of tried had it." */
    private static void fetchAnswers0To3() {
        PinnedPantry x = Given.pantry(12, 0, "3|4|0|1");
        Checks.due("fetch(3)", x.fetch(3), 0);
        Checks.due("fetch(4)", x.fetch(4), 0);
        Checks.due("fetch(5)", x.fetch(5), 1);
        Checks.due("fetch(0)", x.fetch(0), 2);
        Checks.due("fetch(1)", x.fetch(1), 3);
        Checks.due("fetch(0) again", x.fetch(0), 0);
        Checks.due("fetch(1) again", x.fetch(1), 0);
        Checks.due("fetch(5) again", x.fetch(5), 0);
    }

    /** "If several exceptions apply, the one that is named first is thrown." */
    private static void fetchNamesTheWrongKindFirst() {
        PinnedPantry x = Given.pantry(2, 0, "3+1|4+1||");
        Checks.refused(x, "fetch(-1), as nothing can be fetched", INDEX, () -> x.fetch(-1));
        Checks.refused(x, "fetch(40), as nothing can be fetched", INDEX, () -> x.fetch(40));
    }

    /** "Creates an empty pantry." */
    private static void newObjectIsEmpty() {
        PinnedPantry x = new PinnedPantry();
        Checks.stands(x, "a new one", "|||");
        for (int what = 0; what <= 10; what++) {
            Checks.due("count(" + what + ")", x.count(what), what == 0 ? 6 : 0);
        }
        for (int kind = 0; kind < 40; kind++) {
            Checks.due("jar(" + kind + ", 0)", x.jar(kind, 0), -1);
            Checks.due("would(" + kind + ")", x.would(kind), 1);
        }
    }

    /** "each by the remainder of 40". */
    private static void remainderOf40() {
        PinnedPantry x = new PinnedPantry();
        x.setPlaces(12);
        x.fetchAll(38, 1, 3);
        Checks.stands(x, "38, 39, 40", "38 39 0|||");
        x.fetchAll(39, 39, 3);
        Checks.stands(x, "39, 78, 117", "38* 39* 0 37|||");
        PinnedPantry y = new PinnedPantry();
        y.setPlaces(12);
        y.fetchAll(20, 20, 30);
        Checks.stands(y, "20, 40, .. 600", "20* 0*|||");
        PinnedPantry z = new PinnedPantry();
        z.setPlaces(2);
        z.fetchAll(39, 39, 30);
        Checks.due("the last one of 39, 78, .. 1170", z.shelf(0, 1), 10);
    }

    /** "Throws IndexOutOfBoundsException if from is not 0 to 39". */
    private static void fromIs0To39() {
        PinnedPantry x = new PinnedPantry();
        x.fetchAll(0, 1, 1);
        x.fetchAll(39, 1, 1);
        Checks.stands(x, "0 and 39", "0 39|||");
        int[] wrong = {-1, 40, Integer.MIN_VALUE, Integer.MAX_VALUE};
        for (int from : wrong) {
            Checks.refused(x, "fetchAll(" + from + ", 1, 1)", INDEX, () -> x.fetchAll(from, 1, 1));
        }
    }

    /** "Throws IllegalArgumentException if step is not 0 to 39". */
    private static void stepIs0To39() {
        PinnedPantry x = new PinnedPantry();
        Checks.due("fetchAll(1, 0, 2)", x.fetchAll(1, 0, 2), 1);
        Checks.due("fetchAll(2, 39, 2)", x.fetchAll(2, 39, 2), 1);
        Checks.stands(x, "steps of 0 and of 39", "1* 2|||");
        int[] wrong = {-1, 40, Integer.MIN_VALUE, Integer.MAX_VALUE};
        for (int step : wrong) {
            Checks.refused(x, "fetchAll(1, " + step + ", 1)", ARGUMENT, () -> x.fetchAll(1, step, 1));
        }
    }

    /** "or many is not 1 to 30". */
    private static void manyIs1To30() {
        PinnedPantry x = new PinnedPantry();
        Checks.due("fetchAll(1, 0, 1)", x.fetchAll(1, 0, 1), 0);
        Checks.due("fetched", x.jar(1, 4), 1);
        Checks.due("fetchAll(1, 0, 30)", x.fetchAll(1, 0, 30), 30);
        Checks.due("fetched", x.jar(1, 4), 31);
        int[] wrong = {0, -1, 31, Integer.MIN_VALUE, Integer.MAX_VALUE};
        for (int many : wrong) {
            Checks.refused(x, "fetchAll(1, 0, " + many + ")", ARGUMENT, () -> x.fetchAll(1, 0, many));
        }
    }

    /** "If several exceptions apply, the one that is named first is thrown." */
    private static void wrongKindIsNamedBeforeWrongNumbers() {
        PinnedPantry x = Given.pantry(3, 1, "3*|4+1|0|1");
        Checks.refused(x, "fetchAll(40, 40, 1)", INDEX, () -> x.fetchAll(40, 40, 1));
        Checks.refused(x, "fetchAll(-1, 0, 31)", INDEX, () -> x.fetchAll(-1, 0, 31));
        Checks.refused(x, "fetchAll(-1, -1, 0)", INDEX, () -> x.fetchAll(-1, -1, 0));
        Checks.refused(x, "fetchAll(0, -1, 0)", ARGUMENT, () -> x.fetchAll(0, -1, 0));
    }

    /** "those that cannot be fetched are left out": neither hits nor misses, and no exception. */
    private static void someAreLeftOut() {
        PinnedPantry x = Given.pantry(2, 1, "2+1|4+1|0|1");
        int misses = x.count(7);
        Checks.due("fetchAll(0, 1, 5)", x.fetchAll(0, 1, 5), 2);
        Checks.stands(x, "0, 1 and 3 were left out", "2*+1|4*+1|0|1");
        Checks.due("misses", x.count(7) - misses, 0);
        Checks.due("goal", x.count(5), 1);
    }

    /** The same, with none that can be fetched. */
    private static void allAreLeftOut() {
        PinnedPantry x = Given.pantry(2, 1, "3+1|4+1|0|1");
        Checks.unchanged(x, "fetchAll(5, 1, 30)", () -> Checks.due("hits", x.fetchAll(5, 1, 30), 0));
    }

    /** The same: those behind one that was left out are fetched. */
    private static void fetchAllGoesOnBehindALeftOutOne() {
        PinnedPantry x = Given.pantry(2, 0, "3+1|4+1||");
        Checks.due("fetchAll(2, 1, 4)", x.fetchAll(2, 1, 4), 2);
        Checks.stands(x, "2 and 5 were left out", "3*+1|4*+1||");
    }
}
