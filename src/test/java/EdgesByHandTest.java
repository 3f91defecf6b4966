/** The boundary cases of pin, unpin, eat, setPlaces and setGoal, one test for each sentence that names some. */
public final class EdgesByHandTest {
    private static final Class<?> INDEX = IndexOutOfBoundsException.class;
    private static final Class<?> ARGUMENT = IllegalArgumentException.class;
    private static final Class<?> STATE = IllegalStateException.class;

    public static void main(String[] args) {
        pinNeedsAJar();
        pinStopsAt9();
        unpinNeedsAJar();
        unpinStopsAt0();
        eatNeedsAJar();
        eatNeedsAJarThatIsNotPinned();
        eatTakesTouchedOrNot();
        eatenIsGoneFromEachPlace();
        eatenIsNotRemembered();
        wrongKindsAreNamedFirst();
        placesAre2To12();
        placesAreAnsweredAsTheyWere();
        placesArePinnedJarsAtLeast();
        wrongPlacesAreNamedBeforePinnedJars();
        asManyJarsAsPlacesAreNotSwept();
        oneJarMoreIsSwept();
        manyJarsMoreAreSwept();
        sweptByTheGoalAsItWas();
        sweptWithListsOfTheNewLength();
        goalIsCutThen();
        listsForgetTheirEldest();
        listsOfBothShelvesForget();
        morePlacesChangeNothingElse();
        goalIs0ToThePlaces();
        goalIsSetAlone();
        Checks.end();
    }

    /** pin: "Throws IllegalStateException if there is no jar of it", never there, remembered or eaten. */
    private static void pinNeedsAJar() {
        PinnedPantry x = Given.pantry(3, 1, "3 5|4|0|1");
        x.eat(5);
        int[] without = {0, 1, 5, 6, 39};
        for (int kind : without) {
            Checks.refused(x, "pin(" + kind + ")", STATE, () -> x.pin(kind));
        }
        Checks.due("pin(3) on new", x.pin(3), 1);
        Checks.due("pin(4) on tried", x.pin(4), 1);
        Checks.stands(x, "two were pinned", "3+1|4+1|0|1");
    }

    /** "or it has 9 pins". */
    private static void pinStopsAt9() {
        PinnedPantry x = Given.pantry(2, 0, "3|4||");
        for (int kind = 3; kind <= 4; kind++) {
            int pinned = kind;
            for (int pins = 1; pins <= 9; pins++) {
                Checks.due("pin(" + kind + ")", x.pin(kind), pins);
            }
            Checks.refused(x, "a tenth pin(" + kind + ")", STATE, () -> x.pin(pinned));
        }
        Checks.stands(x, "nine pins each", "3+9|4+9||");
        x.unpin(3);
        Checks.due("pin(3), which had 8", x.pin(3), 9);
        Checks.refused(x, "a tenth pin(3) again", STATE, () -> x.pin(3));
    }

    /** unpin: "Throws IllegalStateException if there is no jar of it". */
    private static void unpinNeedsAJar() {
        PinnedPantry x = Given.pantry(3, 1, "3+1 5+1|4+1|0|1");
        x.unpin(5);
        x.eat(5);
        int[] without = {0, 1, 5, 6, 39};
        for (int kind : without) {
            Checks.refused(x, "unpin(" + kind + ")", STATE, () -> x.unpin(kind));
        }
        Checks.due("unpin(3) on new", x.unpin(3), 0);
        Checks.due("unpin(4) on tried", x.unpin(4), 0);
        Checks.stands(x, "two were unpinned", "3|4|0|1");
    }

    /** "or it has no pin". */
    private static void unpinStopsAt0() {
        PinnedPantry x = Given.pantry(2, 0, "3+9|4+1||");
        for (int pins = 8; pins >= 0; pins--) {
            Checks.due("unpin(3)", x.unpin(3), pins);
        }
        Checks.refused(x, "a tenth unpin(3)", STATE, () -> x.unpin(3));
        Checks.due("unpin(4)", x.unpin(4), 0);
        Checks.refused(x, "a second unpin(4)", STATE, () -> x.unpin(4));
        Checks.stands(x, "no pins", "3|4||");
        PinnedPantry y = Given.pantry(2, 0, "3|4*||");
        Checks.refused(y, "unpin(3), never pinned", STATE, () -> y.unpin(3));
        Checks.refused(y, "unpin(4), never pinned", STATE, () -> y.unpin(4));
    }

    /** eat: "Throws IllegalStateException if there is no jar of it". */
    private static void eatNeedsAJar() {
        PinnedPantry x = Given.pantry(3, 1, "3 5|4|0|1");
        x.eat(5);
        int[] without = {0, 1, 5, 6, 39};
        for (int kind : without) {
            Checks.refused(x, "eat(" + kind + ")", STATE, () -> x.eat(kind));
        }
        PinnedPantry y = new PinnedPantry();
        Checks.refused(y, "eat(0) of an empty pantry", STATE, () -> y.eat(0));
    }

    /** "or it is pinned". */
    private static void eatNeedsAJarThatIsNotPinned() {
        PinnedPantry x = Given.pantry(2, 0, "3+1|4*+9||");
        Checks.refused(x, "eat(3), with 1 pin", STATE, () -> x.eat(3));
        Checks.refused(x, "eat(4), with 9 pins", STATE, () -> x.eat(4));
        x.unpin(3);
        Checks.due("eat(3), with 0 pins", x.eat(3), 1);
        Checks.stands(x, "3 was eaten", "|4*+9||");
    }

    /** "Eats up a jar, touched or not", and "Returns how often it was fetched." */
    private static void eatTakesTouchedOrNot() {
        PinnedPantry x = new PinnedPantry();
        x.fetchAll(0, 1, 2);
        x.fetchAll(1, 0, 30);
        Checks.due("eat(0), fetched once", x.eat(0), 1);
        Checks.due("eat(1), fetched often", x.eat(1), 31);
        Checks.stands(x, "both were eaten", "|||");
    }

    /** "it is gone": the first, the one between, the last and the only one of each shelf. */
    private static void eatenIsGoneFromEachPlace() {
        String[] behindNew = {"4 5|6 7 8||", "3 5|6 7 8||", "3 4|6 7 8||"};
        String[] behindTried = {"3 4 5|7 8||", "3 4 5|6 8||", "3 4 5|6 7||"};
        for (int i = 0; i < 3; i++) {
            PinnedPantry x = Given.pantry(6, 0, "3 4 5|6 7 8||");
            x.eat(3 + i);
            Checks.stands(x, "one of new was eaten", behindNew[i]);
            PinnedPantry y = Given.pantry(6, 0, "3 4 5|6 7 8||");
            y.eat(6 + i);
            Checks.stands(y, "one of tried was eaten", behindTried[i]);
            Checks.due("jar(" + (6 + i) + ", 4)", y.jar(6 + i, 4), -1);
        }
        PinnedPantry z = Given.pantry(2, 0, "3|4||");
        z.eat(3);
        Checks.stands(z, "the only one of new was eaten", "|4||");
        z.eat(4);
        Checks.stands(z, "the only one of tried was eaten", "|||");
    }

    /** "and not remembered". */
    private static void eatenIsNotRemembered() {
        PinnedPantry x = Given.pantry(4, 2, "3 5|4 6|0|1");
        x.eat(3);
        x.eat(4);
        Checks.stands(x, "the lists are as they were", "5|6|0|1");
        Checks.due("goal", x.count(5), 2);
        Checks.due("fetch(3)", x.fetch(3), 1);
        Checks.due("fetch(4)", x.fetch(4), 1);
        Checks.stands(x, "both came to new", "5 3 4|6|0|1");
        Checks.due("fetched", x.jar(4, 4), 1);
        PinnedPantry y = new PinnedPantry();
        y.fetchAll(3, 0, 2);
        y.eat(3);
        y.fetch(3);
        Checks.stands(y, "a new jar of it is not touched", "3|||");
    }

    /** "If several exceptions apply, the one that is named first is thrown." */
    private static void wrongKindsAreNamedFirst() {
        PinnedPantry x = new PinnedPantry();
        Checks.refused(x, "pin(40), of which there is no jar", INDEX, () -> x.pin(40));
        Checks.refused(x, "pin(-1), of which there is no jar", INDEX, () -> x.pin(-1));
        Checks.refused(x, "unpin(40), of which there is no jar", INDEX, () -> x.unpin(40));
        Checks.refused(x, "unpin(-1), of which there is no jar", INDEX, () -> x.unpin(-1));
        Checks.refused(x, "eat(40), of which there is no jar", INDEX, () -> x.eat(40));
        Checks.refused(x, "eat(-1), of which there is no jar", INDEX, () -> x.eat(-1));
    }

    /** setPlaces: "Throws IllegalArgumentException if places is not 2 to 12". */
    private static void placesAre2To12() {
        PinnedPantry x = Given.pantry(4, 3, "3* 5|4|0|1");
        int[] wrong = {1, 0, -1, 13, Integer.MIN_VALUE, Integer.MAX_VALUE};
        for (int places : wrong) {
            Checks.refused(x, "setPlaces(" + places + ")", ARGUMENT, () -> x.setPlaces(places));
        }
        Checks.stands(x, "nothing was set", "3* 5|4|0|1");
        x.setPlaces(12);
        Checks.due("places", x.count(0), 12);
        x.setPlaces(2);
        Checks.due("places", x.count(0), 2);
    }

    /** "Returns how many before." */
    private static void placesAreAnsweredAsTheyWere() {
        PinnedPantry x = new PinnedPantry();
        Checks.due("setPlaces(2)", x.setPlaces(2), 6);
        Checks.due("setPlaces(12)", x.setPlaces(12), 2);
        Checks.due("setPlaces(12) again", x.setPlaces(12), 12);
        Checks.due("setPlaces(6)", x.setPlaces(6), 12);
    }

    /** "Throws IllegalStateException if more jars are pinned": as many are taken, one more is refused. */
    private static void placesArePinnedJarsAtLeast() {
        PinnedPantry x = Given.pantry(6, 5, "3+1 5 6+9|4+1 7|0|1");
        Checks.refused(x, "setPlaces(2), with 3 pinned", STATE, () -> x.setPlaces(2));
        Checks.due("setPlaces(3), with 3 pinned", x.setPlaces(3), 6);
        Checks.stands(x, "only pinned ones are there", "6+9 3+1|4+1|0 5|1 7");
        Checks.refused(x, "setPlaces(2), with 3 pinned of 3", STATE, () -> x.setPlaces(2));
        x.unpin(4);
        Checks.due("setPlaces(2), with 2 pinned", x.setPlaces(2), 3);
        Checks.stands(x, "only pinned ones are there", "6+9 3+1||0 5|7 4");
        PinnedPantry y = Given.pantry(12, 0, "0+1 1+1 2+1 3+1 4+1 5+1|6+1 7+1 8+1 9+1 10+1 11+1||");
        for (int places = 2; places <= 11; places++) {
            int fewer = places;
            Checks.refused(y, "setPlaces(" + places + "), with 12 pinned", STATE, () -> y.setPlaces(fewer));
        }
        Checks.due("setPlaces(12), with 12 pinned", y.setPlaces(12), 12);
    }

    /** "If several exceptions apply, the one that is named first is thrown." */
    private static void wrongPlacesAreNamedBeforePinnedJars() {
        PinnedPantry x = Given.pantry(3, 0, "3+1 5+1|4+1||");
        Checks.refused(x, "setPlaces(1), with 3 pinned", ARGUMENT, () -> x.setPlaces(1));
        Checks.refused(x, "setPlaces(-1), with 3 pinned", ARGUMENT, () -> x.setPlaces(-1));
        Checks.refused(x, "setPlaces(2), with 3 pinned", STATE, () -> x.setPlaces(2));
    }

    /** "as long as there are more jars, the pantry is swept": by as many jars as places it is not. */
    private static void asManyJarsAsPlacesAreNotSwept() {
        PinnedPantry x = Given.pantry(6, 0, "3* 5|4||");
        int looks = x.count(9);
        x.setPlaces(3);
        Checks.stands(x, "none left", "3* 5|4||");
        Checks.due("looks", x.count(9) - looks, 0);
        PinnedPantry y = Given.pantry(6, 0, "|||");
        y.setPlaces(2);
        Checks.stands(y, "without jars", "|||");
    }

    /** The same: by one jar more it is swept once. */
    private static void oneJarMoreIsSwept() {
        PinnedPantry x = Given.pantry(6, 0, "3* 5|4||");
        int looks = x.count(9);
        x.setPlaces(2);
        Checks.stands(x, "one left", "|4 3|5|");
        Checks.due("looks", x.count(9) - looks, 2);
    }

    /** The same: by ten more, it is swept ten times. */
    private static void manyJarsMoreAreSwept() {
        PinnedPantry x = Given.pantry(12, 0, "0 1 2 3 4 5 6 7 8 9 10 11|||");
        int looks = x.count(9);
        x.setPlaces(2);
        Checks.stands(x, "ten left", "10 11||8 9|");
        Checks.due("looks", x.count(9) - looks, 10);
    }

    /** "(by the goal as it was". */
    private static void sweptByTheGoalAsItWas() {
        PinnedPantry x = Given.pantry(6, 4, "3 4 5|6 7 8||");
        x.setPlaces(3);
        Checks.stands(x, "3 on new are fewer than 4", "3 4 5|||6 7 8");
        Checks.due("goal", x.count(5), 3);
        PinnedPantry y = Given.pantry(6, 3, "3 4 5|6 7 8||");
        y.setPlaces(3);
        Checks.stands(y, "3 on new are as many as 3", "4 5|8|3|6 7");
        Checks.due("goal", y.count(5), 3);
    }

    /** "and with lists of the new length)". */
    private static void sweptWithListsOfTheNewLength() {
        PinnedPantry x = Given.pantry(6, 0, "3 4 5 6 7 8||0 1 2 9 10 11|");
        x.setPlaces(4);
        Checks.stands(x, "two left new", "5 6 7 8||10 11 3 4|");
        PinnedPantry y = Given.pantry(6, 6, "|3 4 5 6 7 8||0 1 2 9");
        y.setPlaces(5);
        Checks.stands(y, "one left tried, and the list is full", "|4 5 6 7 8||0 1 2 9 3");
        y.setPlaces(4);
        Checks.stands(y, "one more left tried", "|5 6 7 8||2 9 3 4");
    }

    /** "then the goal is at most as many". */
    private static void goalIsCutThen() {
        for (int goal = 3; goal <= 6; goal++) {
            PinnedPantry x = Given.pantry(6, goal, "|||");
            x.setPlaces(4);
            Checks.due("a goal of " + goal + " behind setPlaces(4)", x.count(5), goal <= 4 ? goal : 4);
            x.setPlaces(12);
            Checks.due("and it stays so", x.count(5), goal <= 4 ? goal : 4);
        }
        PinnedPantry y = Given.pantry(12, 12, "|||");
        y.setPlaces(2);
        Checks.due("a goal of 12 behind setPlaces(2)", y.count(5), 2);
        Checks.refused(y, "setGoal(3)", ARGUMENT, () -> y.setGoal(3));
    }

    /** "and lists forget their eldest kinds": as many as the places stay, one more is forgotten. */
    private static void listsForgetTheirEldest() {
        PinnedPantry x = Given.pantry(6, 0, "||0 1 2 3|");
        x.setPlaces(4);
        Checks.stands(x, "four of four", "||0 1 2 3|");
        x.setPlaces(3);
        Checks.stands(x, "three of four", "||1 2 3|");
        x.setPlaces(2);
        Checks.stands(x, "two of three", "||2 3|");
        PinnedPantry y = Given.pantry(12, 0, "||0 1 2 3 4 5 6 7 8 9 10 11|");
        y.setPlaces(2);
        Checks.stands(y, "two of twelve", "||10 11|");
    }

    /** The same, for both lists, and behind jars that left. */
    private static void listsOfBothShelvesForget() {
        PinnedPantry x = Given.pantry(6, 0, "3|4|0 1 2 5|6 7 8 9");
        x.setPlaces(3);
        Checks.stands(x, "three of four, each", "3|4|1 2 5|7 8 9");
        PinnedPantry y = Given.pantry(4, 0, "3 10|4|0 1 2|6 7 8");
        y.setPlaces(2);
        Checks.stands(y, "3 left new", "10|4|2 3|7 8");
    }

    /** More places: no jar leaves, no kind is forgotten, and the goal stays. */
    private static void morePlacesChangeNothingElse() {
        PinnedPantry x = Given.pantry(2, 2, "3*|4+1|0 1|5 6");
        int looks = x.count(9);
        x.setPlaces(12);
        Checks.stands(x, "twelve places", "3*|4+1|0 1|5 6");
        Checks.due("goal", x.count(5), 2);
        Checks.due("looks", x.count(9) - looks, 0);
        PinnedPantry y = Given.pantry(4, 2, "3* 5|4+1 6|0|1");
        Checks.unchanged(y, "setPlaces(4)", () -> y.setPlaces(4));
    }

    /** setGoal: "Throws IllegalArgumentException if goal is not 0 to as many as there are places". */
    private static void goalIs0ToThePlaces() {
        for (int places = 2; places <= 12; places++) {
            PinnedPantry x = new PinnedPantry();
            x.setPlaces(places);
            int more = places + 1;
            Checks.due("setGoal(" + places + ")", x.setGoal(places), 0);
            Checks.refused(x, "setGoal(" + more + ") of " + places, ARGUMENT, () -> x.setGoal(more));
            Checks.refused(x, "setGoal(-1)", ARGUMENT, () -> x.setGoal(-1));
            Checks.refused(x, "setGoal(MAX)", ARGUMENT, () -> x.setGoal(Integer.MAX_VALUE));
            Checks.refused(x, "setGoal(MIN)", ARGUMENT, () -> x.setGoal(Integer.MIN_VALUE));
            Checks.due("setGoal(0)", x.setGoal(0), places);
            Checks.due("goal", x.count(5), 0);
        }
    }

    /** The goal that is set changes no jar and no list, and the same one may be set again. */
    private static void goalIsSetAlone() {
        PinnedPantry x = Given.pantry(4, 1, "3* 5|4+1 6|0|1");
        Checks.due("setGoal(4)", x.setGoal(4), 1);
        Checks.due("setGoal(4) again", x.setGoal(4), 4);
        Checks.stands(x, "a goal of 4", "3* 5|4+1 6|0|1");
    }
}
