/**
 * Pantries in a state that is told in one line, as Checks.stands() tells it. Fewer than 256 calls bring
 * a pantry there, so that a test has as many again of the 512 that the document promises.
 */
final class Given {
    /** The kinds from here to 39 only bring a pantry into its state, and are forgotten then. */
    private static final int FILLER = 27;
    private static final int MOST_PLACES = 12;

    private Given() {
    }

    static PinnedPantry pantry(int places, int goal, String state) {
        String[] rows = state.split("\\|", -1);
        PinnedPantry x = new PinnedPantry();
        x.setPlaces(MOST_PLACES);
        leaveTried(x, words(rows[3]));
        putOnTried(x, words(rows[1]));
        leaveNew(x, words(rows[2]), words(rows[1]).length);
        for (String word : words(rows[0])) {
            x.fetch(kind(word));
        }
        x.setPlaces(places);
        mark(x, words(rows[0]));
        mark(x, words(rows[1]));
        x.setGoal(goal);
        Checks.stands(x, "given", state);
        return x;
    }

    private static String[] words(String row) {
        return row.isEmpty() ? new String[0] : row.split(" ");
    }

    private static int kind(String word) {
        return Integer.parseInt(word.split("[*+]")[0]);
    }

    private static void mark(PinnedPantry x, String[] words) {
        for (String word : words) {
            if (word.contains("*")) {
                x.fetch(kind(word));
            }
            int pins = word.contains("+") ? Integer.parseInt(word.substring(word.indexOf('+') + 1)) : 0;
            for (int i = 0; i < pins; i++) {
                x.pin(kind(word));
            }
        }
    }

    private static void fetchPinned(PinnedPantry x, int kind) {
        x.fetch(kind);
        x.pin(kind);
    }

    private static void eatPinned(PinnedPantry x, int kind) {
        x.unpin(kind);
        x.eat(kind);
    }

    /** Touched ones come to tried by the first sweeping; as new is all pinned then, one by one leaves tried. */
    private static void leaveTried(PinnedPantry x, String[] words) {
        if (words.length == 0) {
            return;
        }
        int filler = FILLER;
        for (int i = words.length; i < MOST_PLACES; i++) {
            fetchPinned(x, filler++);
        }
        for (String word : words) {
            x.fetchAll(kind(word), 0, 2);
        }
        for (int i = 0; i < words.length; i++) {
            fetchPinned(x, filler++);
        }
        for (int kind = FILLER; kind < filler; kind++) {
            eatPinned(x, kind);
        }
    }

    /** Touched ones come to tried by a sweeping, behind which the first filler leaves. */
    private static void putOnTried(PinnedPantry x, String[] words) {
        if (words.length == 0) {
            return;
        }
        for (String word : words) {
            x.fetchAll(kind(word), 0, 2);
        }
        int fillers = MOST_PLACES - words.length + 1;
        x.fetchAll(FILLER, 1, fillers);
        for (int i = 1; i < fillers; i++) {
            x.eat(FILLER + i);
        }
        x.fetch(FILLER);
        x.eat(FILLER);
        x.setGoal(0);
    }

    /** All else on new is pinned, and the goal is 0, so that just the one that is due leaves new. */
    private static void leaveNew(PinnedPantry x, String[] words, int onTried) {
        if (words.length == 0) {
            return;
        }
        int last = FILLER + MOST_PLACES - onTried - 1;
        for (int kind = FILLER; kind < last; kind++) {
            fetchPinned(x, kind);
        }
        for (String word : words) {
            x.fetch(kind(word));
            x.fetch(last);
            x.eat(last);
        }
        for (int kind = FILLER; kind < last; kind++) {
            eatPinned(x, kind);
        }
    }
}
