/** What every test does with an answer: prints the ones that are not due, and ends with exit code 1 then. */
final class Checks {
    private static int wrong = 0;

    private Checks() {
    }

    static void due(String call, long got, long want) {
        if (got != want) {
            fail(call + " answered " + got + ", due is " + want);
        }
    }

    static void due(String call, double got, double want) {
        if (Double.compare(got, want) != 0) {
            fail(call + " answered " + got + ", due is " + want);
        }
    }

    /** The class itself must throw just this exception, by no call of the library, and be as it was. */
    static void refused(PinnedPantry pantry, String call, Class<?> exception, Runnable action) {
        long before = pantry.digest();
        String thrown = "nothing";
        try {
            action.run();
        } catch (RuntimeException e) {
            thrown = e.getClass().getName();
            String thrower = e.getStackTrace().length > 0 ? e.getStackTrace()[0].getClassName() : "nobody";
            if (!thrower.split("[$]")[0].equals("PinnedPantry")) {
                fail(call + ": its exception is thrown by " + thrower);
            }
        }
        if (!thrown.equals(exception.getName())) {
            fail(call + " threw " + thrown + ", due is " + exception.getName());
        }
        due("digest() behind the refused " + call, pantry.digest(), before);
    }

    /** The kinds on both shelves and in both lists, "new|tried|list of new|list of tried". */
    static void holds(PinnedPantry pantry, String when, String want) {
        StringBuilder got = new StringBuilder();
        for (int row = 0; row < 4; row++) {
            int shelf = row % 2;
            int length = pantry.count(row + 1);
            for (int place = 0; place < length; place++) {
                got.append(place == 0 ? "" : " ");
                got.append(row < 2 ? pantry.shelf(shelf, place) : pantry.ghost(shelf, place));
            }
            got.append(row < 3 ? "|" : "");
        }
        if (!got.toString().equals(want)) {
            fail(when + ": holds " + got + ", due is " + want);
        }
    }

    /**
     * The whole of both shelves and both lists, as holds() tells it, with a * behind a kind whose jar is
     * touched, and a + with the number of its pins behind one whose jar is pinned: "3* 4+2|0||1".
     */
    static void stands(PinnedPantry pantry, String when, String want) {
        StringBuilder got = new StringBuilder();
        for (int row = 0; row < 4; row++) {
            int shelf = row % 2;
            int length = pantry.count(row + 1);
            for (int place = 0; place < length; place++) {
                got.append(place == 0 ? "" : " ");
                got.append(row < 2 ? jarText(pantry, pantry.shelf(shelf, place)) : pantry.ghost(shelf, place));
            }
            got.append(row < 3 ? "|" : "");
        }
        if (!got.toString().equals(want)) {
            fail(when + ": stands " + got + ", due is " + want);
        }
    }

    private static String jarText(PinnedPantry pantry, int kind) {
        String touch = pantry.jar(kind, 2) == 1 ? "*" : "";
        int pins = pantry.jar(kind, 3);
        return kind + touch + (pins > 0 ? "+" + pins : "");
    }

    /** The calls must change nothing. */
    static void unchanged(PinnedPantry pantry, String calls, Runnable action) {
        long before = pantry.digest();
        action.run();
        due("digest() behind " + calls, pantry.digest(), before);
    }

    static void fail(String what) {
        wrong++;
        System.out.println(what);
    }

    static void end() {
        if (wrong > 0) {
            System.out.println(wrong + " answers are not as due");
            System.exit(1);
        }
    }
}
