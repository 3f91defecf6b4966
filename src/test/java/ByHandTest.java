/** Promises 4 to 8: pin, unpin, eat, setPlaces and setGoal. */
public final class ByHandTest {
    private static final Class<?> INDEX = IndexOutOfBoundsException.class;
    private static final Class<?> ARGUMENT = IllegalArgumentException.class;
    private static final Class<?> STATE = IllegalStateException.class;

    public static void main(String[] args) {
        pinsAreCounted();
        pinRefusesWrongInputs();
        unpinRefusesWrongInputs();
        pinsEndWithTheJar();
        eatenJarsAreNotRemembered();
        eatRefusesWrongInputs();
        placesAreSet();
        fewerPlacesSweep();
        fewerPlacesSweepByTheOldGoal();
        fewerPlacesShortenLists();
        setPlacesRefusesWrongInputs();
        goalIsSet();
        Checks.end();
    }

    private static void pinsAreCounted() {
        PinnedPantry x = new PinnedPantry();
        x.fetchAll(0, 39, 2);
        for (int pins = 1; pins <= 9; pins++) {
            Checks.due("pin(39)", x.pin(39), pins);
            Checks.due("its pins", x.jar(39, 3), pins);
        }
        Checks.due("pin(0)", x.pin(0), 1);
        Checks.due("pinned jars", x.count(10), 2);
        for (int pins = 8; pins >= 0; pins--) {
            Checks.due("unpin(39)", x.unpin(39), pins);
            Checks.due("its pins", x.jar(39, 3), pins);
        }
        Checks.due("unpin(0)", x.unpin(0), 0);
        Checks.due("pinned jars", x.count(10), 0);
    }

    private static void pinRefusesWrongInputs() {
        PinnedPantry x = new PinnedPantry();
        x.setPlaces(2);
        x.fetchAll(0, 1, 3);
        for (int pins = 1; pins <= 9; pins++) {
            x.pin(1);
        }
        Checks.refused(x, "a tenth pin(1)", STATE, () -> x.pin(1));
        Checks.refused(x, "pin(0), remembered only", STATE, () -> x.pin(0));
        Checks.refused(x, "pin(39)", STATE, () -> x.pin(39));
        Checks.refused(x, "pin(40)", INDEX, () -> x.pin(40));
        Checks.refused(x, "pin(-1)", INDEX, () -> x.pin(-1));
    }

    private static void unpinRefusesWrongInputs() {
        PinnedPantry x = new PinnedPantry();
        x.fetch(1);
        Checks.refused(x, "unpin(1)", STATE, () -> x.unpin(1));
        Checks.refused(x, "unpin(0)", STATE, () -> x.unpin(0));
        Checks.refused(x, "unpin(40)", INDEX, () -> x.unpin(40));
        Checks.refused(x, "unpin(-1)", INDEX, () -> x.unpin(-1));
        x.pin(1);
        x.unpin(1);
        Checks.refused(x, "unpin(1) behind the last pin", STATE, () -> x.unpin(1));
    }

    private static void pinsEndWithTheJar() {
        PinnedPantry x = new PinnedPantry();
        x.fetch(1);
        x.fetch(1);
        x.eat(1);
        Checks.refused(x, "unpin(1) behind eat(1)", STATE, () -> x.unpin(1));
        x.fetch(1);
        Checks.due("touched of a new jar", x.jar(1, 2), 0);
        Checks.due("pins of a new jar", x.jar(1, 3), 0);
        Checks.due("fetched of a new jar", x.jar(1, 4), 1);
    }

    private static void eatenJarsAreNotRemembered() {
        PinnedPantry x = new PinnedPantry();
        x.fetchAll(0, 1, 6);
        x.fetchAll(2, 0, 3);
        Checks.due("eat(2)", x.eat(2), 4);
        Checks.holds(x, "2 is gone", "0 1 3 4 5|||");
        Checks.due("fetch(2)", x.fetch(2), 1);
        Checks.holds(x, "2 is back", "0 1 3 4 5 2|||");
        Checks.due("eat(0)", x.eat(0), 1);
        Checks.due("eat(2)", x.eat(2), 1);
        Checks.holds(x, "the first and the last one are gone", "1 3 4 5|||");
        x.setPlaces(4);
        x.fetch(1);
        x.fetch(10);
        Checks.holds(x, "1 is on tried", "4 5 10|1|3|");
        Checks.due("eat(1) on tried", x.eat(1), 2);
        Checks.holds(x, "tried is empty", "4 5 10||3|");
    }

    private static void eatRefusesWrongInputs() {
        PinnedPantry x = new PinnedPantry();
        x.fetch(0);
        x.pin(0);
        Checks.refused(x, "eat(0), pinned", STATE, () -> x.eat(0));
        Checks.refused(x, "eat(1)", STATE, () -> x.eat(1));
        Checks.refused(x, "eat(40)", INDEX, () -> x.eat(40));
        Checks.refused(x, "eat(-1)", INDEX, () -> x.eat(-1));
        x.unpin(0);
        Checks.due("eat(0)", x.eat(0), 1);
    }

    private static void placesAreSet() {
        PinnedPantry x = new PinnedPantry();
        Checks.due("setPlaces(12)", x.setPlaces(12), 6);
        x.fetchAll(0, 1, 13);
        Checks.due("jars", x.count(1), 12);
        Checks.due("setPlaces(12) again", x.setPlaces(12), 12);
        Checks.holds(x, "nothing was swept", "1 2 3 4 5 6 7 8 9 10 11 12||0|");
        Checks.due("setPlaces(2)", x.setPlaces(2), 12);
        Checks.due("places", x.count(0), 2);
    }

    private static void fewerPlacesSweep() {
        PinnedPantry x = new PinnedPantry();
        x.fetchAll(0, 1, 6);
        x.pin(0);
        x.fetch(1);
        x.setPlaces(3);
        Checks.holds(x, "three left", "5 0|1|2 3 4|");
        Checks.due("looks", x.count(9), 5);
        Checks.due("next() with the new places", x.next(), 5);
        PinnedPantry y = new PinnedPantry();
        y.fetchAll(0, 1, 3);
        y.setPlaces(3);
        Checks.holds(y, "no jar was too many", "0 1 2|||");
        Checks.due("looks", y.count(9), 0);
    }

    private static void fewerPlacesSweepByTheOldGoal() {
        PinnedPantry x = new PinnedPantry();
        x.fetchAll(0, 1, 6);
        x.fetchAll(0, 1, 3);
        x.fetch(6);
        Checks.holds(x, "before", "4 5 6|0 1 2|3|");
        x.setGoal(5);
        x.setPlaces(4);
        Checks.holds(x, "tried gave by a goal of 5", "4 5 6|2|3|0 1");
        Checks.due("the goal is cut then", x.count(5), 4);
        x.setPlaces(12);
        Checks.due("the goal stays", x.count(5), 4);
    }

    private static void fewerPlacesShortenLists() {
        PinnedPantry x = new PinnedPantry();
        x.fetchAll(0, 1, 12);
        Checks.holds(x, "before", "6 7 8 9 10 11||0 1 2 3 4 5|");
        x.eat(6);
        x.eat(7);
        x.eat(8);
        x.eat(9);
        x.setPlaces(3);
        Checks.holds(x, "the eldest are forgotten", "10 11||3 4 5|");
        x.setPlaces(12);
        Checks.holds(x, "and stay so", "10 11||3 4 5|");
        PinnedPantry y = new PinnedPantry();
        y.fetchAll(0, 1, 6);
        y.fetchAll(0, 1, 6);
        y.fetch(10);
        y.setGoal(6);
        y.fetchAll(11, 1, 3);
        y.fetch(14);
        Checks.holds(y, "before", "10 11 12 13 14|5||0 1 2 3 4");
        y.eat(10);
        y.eat(11);
        y.eat(12);
        y.setPlaces(3);
        Checks.holds(y, "the eldest of tried are forgotten", "13 14|5||2 3 4");
    }

    private static void setPlacesRefusesWrongInputs() {
        PinnedPantry x = new PinnedPantry();
        x.fetchAll(0, 1, 5);
        x.pin(0);
        x.pin(2);
        x.pin(4);
        x.setGoal(6);
        Checks.refused(x, "setPlaces(1)", ARGUMENT, () -> x.setPlaces(1));
        Checks.refused(x, "setPlaces(13)", ARGUMENT, () -> x.setPlaces(13));
        Checks.refused(x, "setPlaces(-3)", ARGUMENT, () -> x.setPlaces(-3));
        Checks.refused(x, "setPlaces(2)", STATE, () -> x.setPlaces(2));
        Checks.due("setPlaces(3)", x.setPlaces(3), 6);
        Checks.holds(x, "the pinned ones are there", "4 0 2||1 3|");
    }

    private static void goalIsSet() {
        PinnedPantry x = new PinnedPantry();
        Checks.due("setGoal(6)", x.setGoal(6), 0);
        Checks.due("setGoal(2)", x.setGoal(2), 6);
        Checks.due("goal", x.count(5), 2);
        Checks.refused(x, "setGoal(7)", ARGUMENT, () -> x.setGoal(7));
        Checks.refused(x, "setGoal(-1)", ARGUMENT, () -> x.setGoal(-1));
        x.setPlaces(12);
        Checks.due("setGoal(12)", x.setGoal(12), 2);
        Checks.refused(x, "setGoal(13)", ARGUMENT, () -> x.setGoal(13));
        Checks.due("setGoal(0)", x.setGoal(0), 12);
    }
}
