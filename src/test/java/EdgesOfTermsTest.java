/** The boundary cases of the document's terms and of its sweeping, one test for each sentence that names some. */
public final class EdgesOfTermsTest {
    private static final Class<?> INDEX = IndexOutOfBoundsException.class;
    private static final int[] NO_KINDS = {-1, 40, Integer.MIN_VALUE, Integer.MAX_VALUE};

    public static void main(String[] args) {
        the512thCallIsAnswered();
        kindsAre0To39();
        kindsBeyondAreRefused();
        oneJarOfAKindAtMost();
        noKindStandsTwice();
        sixPlacesAtFirst();
        twoPlacesAtLeast();
        twelvePlacesAtMost();
        noPinAtFirst();
        oneOrMorePinsPin();
        fetchedOnceAtFirst();
        touchedOrNot();
        listOfNewIsAsLongAsThePlaces();
        listOfTriedIsAsLongAsThePlaces();
        listsOfTwelve();
        goalIs0AtFirst();
        newGivesFromTheGoalOn();
        goalIsAtLeast1ForNew();
        emptyNewDoesNotGive();
        pinnedOnesAreCounted();
        newGivesOnlyIfSomeJarIsNotPinned();
        newGivesIfAllOnTriedArePinned();
        newGivesIfThereAreNoneOnTried();
        shelfThatGivesIsToldAnewBehindATouchedOne();
        shelfThatGivesIsToldAnewWhenTriedGetsItsFirst();
        pinnedOnesStayTouchedOrNot();
        touchedOnesGoToTheEndOfTried();
        allAreTouched();
        allButOneArePinned();
        kindComesToTheListOfTheShelfItLeft();
        Checks.end();
    }

    /** "An object is used for at most 512 calls after it has been made". */
    private static void the512thCallIsAnswered() {
        PinnedPantry x = new PinnedPantry();
        for (int call = 1; call <= 510; call++) {
            x.fetchAll(39, 0, 30);
        }
        Checks.due("the 511th call, fetch(39)", x.fetch(39), 0);
        Checks.due("the 512th call, jar(39, 4)", x.jar(39, 4), 510 * 30 + 1);
    }

    /** "Kinds are 0 to 39": the first and the last one are taken by each call. */
    private static void kindsAre0To39() {
        for (int kind = 0; kind <= 39; kind += 39) {
            PinnedPantry x = new PinnedPantry();
            Checks.due("would", x.would(kind), 1);
            Checks.due("fetch", x.fetch(kind), 1);
            Checks.due("jar", x.jar(kind, 0), 0);
            Checks.due("pin", x.pin(kind), 1);
            Checks.due("unpin", x.unpin(kind), 0);
            Checks.due("trial", x.trial(kind, 0, 2), 2);
            Checks.due("advise", x.advise(kind, 0, 2), 2);
            Checks.due("fetchAll", x.fetchAll(kind, 0, 2), 2);
            Checks.due("shelf", x.shelf(0, 0), kind);
            Checks.due("next", x.next(), kind);
            Checks.due("eat", x.eat(kind), 3);
        }
    }

    /** "Kinds are 0 to 39": what is beyond is refused by each call, and changes nothing. */
    private static void kindsBeyondAreRefused() {
        for (int kind : NO_KINDS) {
            PinnedPantry x = Given.pantry(4, 2, "39 3*|0+1 5|1|2");
            String of = "(" + kind + ", ..)";
            Checks.refused(x, "fetch" + of, INDEX, () -> x.fetch(kind));
            Checks.refused(x, "fetchAll" + of, INDEX, () -> x.fetchAll(kind, 0, 1));
            Checks.refused(x, "pin" + of, INDEX, () -> x.pin(kind));
            Checks.refused(x, "unpin" + of, INDEX, () -> x.unpin(kind));
            Checks.refused(x, "eat" + of, INDEX, () -> x.eat(kind));
            Checks.refused(x, "jar" + of, INDEX, () -> x.jar(kind, 0));
            Checks.refused(x, "would" + of, INDEX, () -> x.would(kind));
            Checks.refused(x, "trial" + of, INDEX, () -> x.trial(kind, 0, 1));
            Checks.refused(x, "advise" + of, INDEX, () -> x.advise(kind, 0, 1));
            Checks.stands(x, "behind refused calls", "39 3*|0+1 5|1|2");
        }
    }

    /** "there is one jar of a kind at most". */
    private static void oneJarOfAKindAtMost() {
        PinnedPantry x = new PinnedPantry();
        x.fetchAll(7, 0, 3);
        Checks.stands(x, "7 was fetched thrice", "7*|||");
        PinnedPantry y = Given.pantry(3, 0, "|3||4");
        y.fetch(3);
        Checks.stands(y, "3 was on tried", "|3*||4");
        y.fetch(4);
        Checks.stands(y, "4 was remembered", "|3* 4||");
        y.fetch(4);
        Checks.stands(y, "4 was fetched again", "|3* 4*||");
    }

    /** The same, by a long run: each kind stands on one shelf or in one list. */
    private static void noKindStandsTwice() {
        for (int step = 1; step < 40; step += 6) {
            PinnedPantry x = new PinnedPantry();
            for (int round = 0; round < 6; round++) {
                x.fetchAll(round * 5, step, 30);
                x.setGoal(round);
                int[] seen = new int[40];
                for (int shelf = 0; shelf <= 1; shelf++) {
                    for (int place = 0; place < x.count(1 + shelf); place++) {
                        seen[x.shelf(shelf, place)]++;
                    }
                    for (int place = 0; place < x.count(3 + shelf); place++) {
                        seen[x.ghost(shelf, place)]++;
                    }
                }
                for (int kind = 0; kind < 40; kind++) {
                    Checks.due("kind " + kind + " stands more than once", seen[kind] > 1 ? 1 : 0, 0);
                }
            }
        }
    }

    /** "The pantry has 2 to 12 places (6, at first) for the jars of both." */
    private static void sixPlacesAtFirst() {
        PinnedPantry x = new PinnedPantry();
        Checks.due("places", x.count(0), 6);
        x.fetchAll(0, 1, 6);
        Checks.stands(x, "the sixth has a place", "0 1 2 3 4 5|||");
        x.fetch(6);
        Checks.stands(x, "the seventh has none", "1 2 3 4 5 6||0|");
        PinnedPantry y = Given.pantry(6, 0, "0 1|2 3 4||");
        y.fetch(5);
        Checks.stands(y, "the sixth of both has a place", "0 1 5|2 3 4||");
        y.fetch(6);
        Checks.stands(y, "the seventh of both has none", "1 5 6|2 3 4|0|");
    }

    /** The same: two places, the fewest. */
    private static void twoPlacesAtLeast() {
        PinnedPantry x = new PinnedPantry();
        x.setPlaces(2);
        x.fetchAll(0, 1, 2);
        Checks.stands(x, "the second has a place", "0 1|||");
        x.fetch(2);
        Checks.stands(x, "the third has none", "1 2||0|");
        PinnedPantry y = Given.pantry(2, 0, "0|1||");
        y.fetch(2);
        Checks.stands(y, "the third of both has none", "2|1|0|");
    }

    /** The same: twelve places, the most. */
    private static void twelvePlacesAtMost() {
        PinnedPantry x = new PinnedPantry();
        x.setPlaces(12);
        x.fetchAll(0, 1, 12);
        Checks.stands(x, "the twelfth has a place", "0 1 2 3 4 5 6 7 8 9 10 11|||");
        x.fetch(12);
        Checks.stands(x, "the thirteenth has none", "1 2 3 4 5 6 7 8 9 10 11 12||0|");
    }

    /** "has 0 to 9 pins (0, at first; with 1 or more it is pinned)". */
    private static void noPinAtFirst() {
        PinnedPantry x = new PinnedPantry();
        x.fetch(3);
        Checks.due("pins at first", x.jar(3, 3), 0);
        Checks.due("pinned jars", x.count(10), 0);
        Checks.due("next()", x.next(), 3);
    }

    /** The same: 0 pins let a jar leave, 1 or 9 do not, nor do those that are left of several. */
    private static void oneOrMorePinsPin() {
        PinnedPantry none = Given.pantry(2, 0, "3 4|||");
        none.pin(3);
        none.unpin(3);
        none.fetch(5);
        Checks.stands(none, "without pins", "4 5||3|");
        PinnedPantry one = Given.pantry(2, 0, "3+1 4|||");
        Checks.due("pinned jars", one.count(10), 1);
        one.fetch(5);
        Checks.stands(one, "with a pin", "3+1 5||4|");
        PinnedPantry nine = Given.pantry(2, 0, "3+9 4|||");
        Checks.due("pinned jars", nine.count(10), 1);
        for (int pins = 8; pins >= 1; pins--) {
            nine.unpin(3);
        }
        nine.fetch(5);
        Checks.stands(nine, "with one of nine pins", "3+1 5||4|");
    }

    /** "and was fetched so often (1, at first)". */
    private static void fetchedOnceAtFirst() {
        PinnedPantry x = Given.pantry(3, 0, "|||1");
        x.fetch(0);
        Checks.due("a new jar", x.jar(0, 4), 1);
        x.fetch(0);
        Checks.due("a new jar, fetched again", x.jar(0, 4), 2);
        x.fetch(1);
        Checks.due("a new jar of a remembered kind, which had been fetched before", x.jar(1, 4), 1);
    }

    /** "A jar is touched or not": it is not touched at first, and a second touch is as the first one. */
    private static void touchedOrNot() {
        PinnedPantry x = new PinnedPantry();
        x.fetch(0);
        Checks.due("at first", x.jar(0, 2), 0);
        x.fetch(0);
        Checks.due("touched", x.jar(0, 2), 1);
        x.fetch(0);
        Checks.due("touched twice", x.jar(0, 2), 1);
        x.setPlaces(2);
        x.fetchAll(1, 1, 2);
        Checks.stands(x, "one sweeping untouches it", "2|0|1|");
    }

    /** "at most as many as there are places; what comes in addition is put at the end, and the eldest ones are forgotten". */
    private static void listOfNewIsAsLongAsThePlaces() {
        PinnedPantry x = Given.pantry(3, 0, "3 4 5||0 1|");
        x.fetch(6);
        Checks.stands(x, "the third is remembered", "4 5 6||0 1 3|");
        x.fetch(7);
        Checks.stands(x, "the fourth comes in addition", "5 6 7||1 3 4|");
        Checks.due("the eldest is forgotten", x.would(0), 1);
        Checks.due("the next one is not", x.would(1), 2);
        PinnedPantry y = Given.pantry(2, 0, "3 4|||0 1");
        y.fetch(5);
        Checks.stands(y, "a full list of tried is another one", "4 5||3|0 1");
    }

    /** The same, for the list of tried. */
    private static void listOfTriedIsAsLongAsThePlaces() {
        PinnedPantry x = Given.pantry(3, 3, "6|7 8||0 1");
        x.fetch(9);
        Checks.stands(x, "the third is remembered", "6 9|8||0 1 7");
        x.fetch(10);
        Checks.stands(x, "the fourth comes in addition", "6 9 10|||1 7 8");
        Checks.due("the eldest is forgotten", x.would(0), 1);
        Checks.due("the next one is not", x.would(1), 3);
        PinnedPantry y = Given.pantry(2, 2, "|3 4|0 1|");
        y.fetch(5);
        Checks.stands(y, "a full list of new is another one", "5|4|0 1|3");
    }

    /** The same, with the most places. */
    private static void listsOfTwelve() {
        PinnedPantry x = Given.pantry(12, 0, "12 13 14 15 16 17 18 19 20 21 22 23||0 1 2 3 4 5 6 7 8 9 10|");
        x.fetch(24);
        Checks.stands(x, "twelve in the list of new",
                "13 14 15 16 17 18 19 20 21 22 23 24||0 1 2 3 4 5 6 7 8 9 10 12|");
        x.fetch(25);
        Checks.stands(x, "a thirteenth comes to it",
                "14 15 16 17 18 19 20 21 22 23 24 25||1 2 3 4 5 6 7 8 9 10 12 13|");
        PinnedPantry y = Given.pantry(12, 12, "23|12 13 14 15 16 17 18 19 20 21 22||0 1 2 3 4 5 6 7 8 9 10");
        y.fetch(24);
        Checks.stands(y, "twelve in the list of tried",
                "23 24|13 14 15 16 17 18 19 20 21 22||0 1 2 3 4 5 6 7 8 9 10 12");
        y.fetch(25);
        Checks.stands(y, "a thirteenth comes to it",
                "23 24 25|14 15 16 17 18 19 20 21 22||1 2 3 4 5 6 7 8 9 10 12 13");
    }

    /** "0 to as many as there are places (0, at first)". */
    private static void goalIs0AtFirst() {
        PinnedPantry x = new PinnedPantry();
        Checks.due("goal at first", x.count(5), 0);
        Checks.due("setGoal(6), as many as places", x.setGoal(6), 0);
        Checks.due("goal", x.count(5), 6);
        Checks.due("setGoal(0)", x.setGoal(0), 6);
        Checks.due("goal", x.count(5), 0);
    }

    /** "either it has as many jars as the goal (at least 1), pinned ones counted, or more ..; otherwise it is tried". */
    private static void newGivesFromTheGoalOn() {
        for (int goal = 0; goal <= 4; goal++) {
            PinnedPantry x = Given.pantry(4, goal, "3 4|0 1||");
            Checks.due("next() by a goal of " + goal, x.next(), goal <= 2 ? 3 : 0);
            x.fetch(5);
            Checks.stands(x, "two on new, by a goal of " + goal, goal <= 2 ? "4 5|0 1|3|" : "3 4 5|1||0");
        }
    }

    /** "(at least 1)": a goal of 0 is as one of 1. */
    private static void goalIsAtLeast1ForNew() {
        PinnedPantry zero = Given.pantry(3, 0, "3|0 1||");
        zero.fetch(5);
        Checks.stands(zero, "one on new, by a goal of 0", "5|0 1|3|");
        PinnedPantry one = Given.pantry(3, 1, "3|0 1||");
        one.fetch(5);
        Checks.stands(one, "one on new, by a goal of 1", "5|0 1|3|");
        PinnedPantry two = Given.pantry(3, 2, "3|0 1||");
        two.fetch(5);
        Checks.stands(two, "one on new, by a goal of 2", "3 5|1||0");
    }

    /** The same, with none on new, which are as many as a goal of 0. */
    private static void emptyNewDoesNotGive() {
        for (int goal = 0; goal <= 2; goal++) {
            PinnedPantry x = Given.pantry(2, goal, "|0 1||");
            Checks.due("next() by a goal of " + goal, x.next(), 0);
            x.fetch(5);
            Checks.stands(x, "none on new, by a goal of " + goal, "5|1||0");
        }
    }

    /** "pinned ones counted". */
    private static void pinnedOnesAreCounted() {
        PinnedPantry two = Given.pantry(4, 2, "3+1 4|0 1||");
        two.fetch(5);
        Checks.stands(two, "two on new, one of them pinned, by a goal of 2", "3+1 5|0 1|4|");
        PinnedPantry three = Given.pantry(4, 3, "3+1 4|0 1||");
        three.fetch(5);
        Checks.stands(three, "two on new, one of them pinned, by a goal of 3", "3+1 4 5|1||0");
    }

    /** "new, if some jar on it is not pinned": with all pinned it is tried, by any goal. */
    private static void newGivesOnlyIfSomeJarIsNotPinned() {
        for (int goal = 0; goal <= 3; goal += 3) {
            PinnedPantry all = Given.pantry(3, goal, "3+1 4+9|0||");
            all.fetch(5);
            Checks.stands(all, "all on new are pinned", "3+1 4+9 5|||0");
        }
        PinnedPantry some = Given.pantry(3, 0, "3+1 4|0||");
        some.fetch(5);
        Checks.stands(some, "one on new is not pinned", "3+1 5|0|4|");
        PinnedPantry touched = Given.pantry(3, 0, "3+1 4*|0||");
        touched.fetch(5);
        Checks.stands(touched, "one on new is not pinned, but touched", "3+1 5|4||0");
    }

    /** "or all jars on tried are pinned": so new gives with fewer jars than the goal. */
    private static void newGivesIfAllOnTriedArePinned() {
        PinnedPantry all = Given.pantry(4, 4, "3|0+1 1+9 2+1||");
        Checks.due("next()", all.next(), 3);
        all.fetch(5);
        Checks.stands(all, "all on tried are pinned", "5|0+1 1+9 2+1|3|");
        PinnedPantry some = Given.pantry(4, 4, "3|0+1 1 2+1||");
        Checks.due("next()", some.next(), 1);
        some.fetch(5);
        Checks.stands(some, "one on tried is not pinned", "3 5|2+1 0+1||1");
    }

    /** "(or there are none)". */
    private static void newGivesIfThereAreNoneOnTried() {
        PinnedPantry x = Given.pantry(6, 6, "3 4 5|||");
        Checks.due("next() by a goal of 6", x.next(), 3);
        x.setPlaces(2);
        Checks.stands(x, "three on new, by a goal of 6", "4 5||3|");
        PinnedPantry y = Given.pantry(6, 6, "3|4||");
        Checks.due("next() with one on tried", y.next(), 4);
    }

    /** "Each time the shelf that gives is told anew": a touched one leaves new with fewer than the goal. */
    private static void shelfThatGivesIsToldAnewBehindATouchedOne() {
        PinnedPantry x = Given.pantry(3, 2, "3* 4|0||");
        Checks.due("next()", x.next(), 0);
        x.fetch(5);
        Checks.stands(x, "new had 2 of 2, then 1", "4 5|3||0");
        PinnedPantry y = Given.pantry(4, 2, "3* 4 6|0||");
        Checks.due("next()", y.next(), 4);
        y.fetch(5);
        Checks.stands(y, "new had 3 of 2, then 2", "6 5|0 3|4|");
    }

    /** The same: a touched one comes to tried, where all are pinned or none is. */
    private static void shelfThatGivesIsToldAnewWhenTriedGetsItsFirst() {
        PinnedPantry pinned = Given.pantry(4, 4, "3* 4|0+1 1+1||");
        int before = pinned.count(9);
        pinned.fetch(5);
        Checks.stands(pinned, "all on tried were pinned", "4 5|0+1 1+1||3");
        Checks.due("looks", pinned.count(9) - before, 4);
        PinnedPantry none = Given.pantry(2, 2, "3* 4|||");
        none.fetch(5);
        Checks.stands(none, "there were none on tried", "4 5|||3");
    }

    /** "a pinned one is put at the end of the same shelf, touched or not as it is". */
    private static void pinnedOnesStayTouchedOrNot() {
        PinnedPantry x = Given.pantry(4, 0, "3*+1 4+1 5|0||");
        x.fetch(6);
        Checks.stands(x, "two of new went round", "3*+1 4+1 6|0|5|");
        PinnedPantry y = Given.pantry(4, 4, "3|0*+1 1+1 2||");
        y.fetch(6);
        Checks.stands(y, "two of tried went round", "3 6|0*+1 1+1||2");
    }

    /** "another one that is touched is put at the end of the shelf tried, and is not touched then". */
    private static void touchedOnesGoToTheEndOfTried() {
        PinnedPantry x = Given.pantry(4, 0, "3* 4|0* 1||");
        x.fetch(6);
        Checks.stands(x, "from new", "6|0* 1 3|4|");
        PinnedPantry y = Given.pantry(4, 4, "3*|0* 1 2||");
        y.fetch(6);
        Checks.stands(y, "from tried", "3* 6|2 0||1");
    }

    /** The same, with all of them touched: the first one that comes to the hand of tried again leaves. */
    private static void allAreTouched() {
        PinnedPantry x = Given.pantry(2, 0, "3* 4*|||");
        int before = x.count(9);
        x.fetch(5);
        Checks.stands(x, "all on new were touched", "5|4||3");
        Checks.due("looks", x.count(9) - before, 3);
        PinnedPantry y = Given.pantry(12, 0, "|0* 1* 2* 3* 4* 5* 6* 7* 8* 9* 10*||");
        y.fetch(11);
        y.fetch(11);
        before = y.count(9);
        y.fetch(12);
        Checks.stands(y, "all twelve were touched", "12|0 1 2 3 4 5 6 7 8 9 10||11");
        Checks.due("looks", y.count(9) - before, 13);
    }

    /** All but one are pinned: it leaves, be it the last one of twelve, and touched. */
    private static void allButOneArePinned() {
        PinnedPantry x = Given.pantry(12, 0, "0+1 1+1 2+1 3+1 4+1 5+1 6+1 7+1 8+1 9+1 10+1 11*|||");
        int before = x.count(9);
        Checks.due("next()", x.next(), 11);
        x.fetch(12);
        Checks.stands(x, "11 left tried", "0+1 1+1 2+1 3+1 4+1 5+1 6+1 7+1 8+1 9+1 10+1 12|||11");
        Checks.due("looks", x.count(9) - before, 13);
        PinnedPantry y = Given.pantry(3, 0, "|0+1 1+1 2*||");
        before = y.count(9);
        y.fetch(5);
        Checks.stands(y, "2 went round and left", "5|0+1 1+1||2");
        Checks.due("looks", y.count(9) - before, 6);
    }

    /** "another one leaves, its kind comes to the end of the list of this shelf, and the sweeping is over". */
    private static void kindComesToTheListOfTheShelfItLeft() {
        PinnedPantry x = Given.pantry(4, 0, "3 4|0 1|10 11|12 13");
        int before = x.count(9);
        x.fetch(5);
        Checks.stands(x, "3 left new", "4 5|0 1|10 11 3|12 13");
        Checks.due("looks", x.count(9) - before, 1);
        x.setGoal(4);
        x.fetch(6);
        Checks.stands(x, "0 left tried", "4 5 6|1|10 11 3|12 13 0");
        Checks.due("looks", x.count(9) - before, 2);
    }
}
