/**
 * A pantry that forgets: jars on two shelves that go round, lists of what left the shelves, and a
 * goal that is turned by what was remembered.
 */
public final class PinnedPantry {
    private static final int KINDS = 40;
    private static final int NONE = -1;

    private static final int NEW = 0;
    private static final int TRIED = 1;
    private static final int SHELVES = 2;

    private static final int FEWEST_PLACES = 2;
    private static final int MOST_PLACES = 12;
    private static final int PLACES_AT_FIRST = 6;
    private static final int MOST_PINS = 9;
    private static final int MOST_FETCHES = 30;

    private static final int HIT = 0;
    private static final int NOT_REMEMBERED = 1;
    private static final int REMEMBERED_BY_NEW = 2;
    private static final int REMEMBERED_BY_TRIED = 3;
    private static final int CANNOT_BE_FETCHED = -9;

    private static final int COUNTS = 11;
    private static final int DETAILS = 5;
    private static final int DIGEST_START = 1541;
    private static final int DIGEST_FACTOR = 31;

    /** Far above what one sweeping can need: 13 looks at unpinned jars, each behind 11 at pinned ones. */
    private static final int MOST_LOOKS = 1000000;

    private final Store store;

    /** Made once and used again, so that asking what would be makes no objects. */
    private final Store rehearsal;

    public PinnedPantry() {
        store = new Store();
        rehearsal = new Store();
    }

    // ---- fetching

    public int fetch(int kind) throws IndexOutOfBoundsException, IllegalStateException {
        requireKind(kind);
        int outcome = store.bring(kind);
        if (outcome == CANNOT_BE_FETCHED) {
            throw new IllegalStateException("all places are taken by pinned jars");
        }
        return outcome;
    }

    public int fetchAll(int from, int step, int many)
            throws IndexOutOfBoundsException, IllegalArgumentException {
        requireSeries(from, step, many);
        return store.bringSeries(from, step, many);
    }

    // ---- by hand

    public int pin(int kind) throws IndexOutOfBoundsException, IllegalStateException {
        requireKind(kind);
        requireJar(kind);
        if (store.pins.of(kind) >= MOST_PINS) {
            throw new IllegalStateException("the jar has as many pins as it can have");
        }
        return store.changePins(kind, 1);
    }

    public int unpin(int kind) throws IndexOutOfBoundsException, IllegalStateException {
        requireKind(kind);
        requireJar(kind);
        if (store.pins.of(kind) < 1) {
            throw new IllegalStateException("the jar has no pin");
        }
        return store.changePins(kind, -1);
    }

    public int eat(int kind) throws IndexOutOfBoundsException, IllegalStateException {
        requireKind(kind);
        requireJar(kind);
        if (store.pins.of(kind) > 0) {
            throw new IllegalStateException("the jar is pinned");
        }
        return store.remove(kind);
    }

    public int setPlaces(int places) throws IllegalArgumentException, IllegalStateException {
        if (places < FEWEST_PLACES || places > MOST_PLACES) {
            throw new IllegalArgumentException("there are 2 to 12 places");
        }
        if (store.pinnedJars() > places) {
            throw new IllegalStateException("more jars are pinned");
        }
        int before = store.places;
        store.resize(places);
        return before;
    }

    public int setGoal(int goal) throws IllegalArgumentException {
        if (goal < 0 || goal > store.places) {
            throw new IllegalArgumentException("the goal is 0 to as many as there are places");
        }
        int before = store.goal;
        store.goal = goal;
        return before;
    }

    // ---- what there is

    public int jar(int kind, int what) throws IndexOutOfBoundsException {
        requireKind(kind);
        if (what < 0 || what >= DETAILS) {
            throw new IndexOutOfBoundsException("what is told of a jar is 0 to 4");
        }
        return store.detail(kind, what);
    }

    public int shelf(int shelf, int place) throws IndexOutOfBoundsException {
        requireShelf(shelf);
        return requireAt(store.rowOf(shelf), place);
    }

    public int ghost(int shelf, int place) throws IndexOutOfBoundsException {
        requireShelf(shelf);
        return requireAt(store.listOf(shelf), place);
    }

    public int count(int what) throws IndexOutOfBoundsException {
        if (what < 0 || what >= COUNTS) {
            throw new IndexOutOfBoundsException("what is counted is 0 to 10");
        }
        return store.tally(what);
    }

    // ---- what would be

    public int next() {
        rehearsal.become(store);
        return rehearsal.sweep();
    }

    public int would(int kind) throws IndexOutOfBoundsException {
        requireKind(kind);
        return store.forecast(kind);
    }

    public int trial(int from, int step, int many)
            throws IndexOutOfBoundsException, IllegalArgumentException {
        requireSeries(from, step, many);
        rehearsal.become(store);
        return rehearsal.bringSeries(from, step, many);
    }

    public int advise(int from, int step, int many)
            throws IndexOutOfBoundsException, IllegalArgumentException {
        requireSeries(from, step, many);
        int best = NONE;
        int mostHits = -1;
        for (int places = Math.max(FEWEST_PLACES, store.pinnedJars()); places <= MOST_PLACES; places++) {
            rehearsal.become(store);
            rehearsal.resize(places);
            int hits = rehearsal.bringSeries(from, step, many);
            if (hits > mostHits) {
                mostHits = hits;
                best = places;
            }
        }
        return best;
    }

    public double mean() {
        int jars = store.jars();
        return jars < 1 ? 0.0 : (double) store.fetchesOfAll() / jars;
    }

    public long digest() {
        long d = DIGEST_START;
        for (int what = 0; what < COUNTS; what++) {
            d = d * DIGEST_FACTOR + store.tally(what);
        }
        for (int shelf = 0; shelf < SHELVES; shelf++) {
            d = store.digestJars(d, store.rowOf(shelf));
            d = store.listOf(shelf).digestKinds(d);
        }
        return d;
    }

    // ---- what is refused

    private static void requireKind(int kind) {
        if (kind < 0 || kind >= KINDS) {
            throw new IndexOutOfBoundsException("a kind is 0 to 39");
        }
    }

    private static void requireSeries(int from, int step, int many) {
        requireKind(from);
        if (step < 0 || step >= KINDS) {
            throw new IllegalArgumentException("the step is 0 to 39");
        }
        if (many < 1 || many > MOST_FETCHES) {
            throw new IllegalArgumentException("1 to 30 kinds are fetched");
        }
    }

    private static void requireShelf(int shelf) {
        if (shelf != NEW && shelf != TRIED) {
            throw new IndexOutOfBoundsException("a shelf is 0 or 1");
        }
    }

    private static int requireAt(Row row, int place) {
        int kind = row.at(place);
        if (kind == NONE) {
            throw new IndexOutOfBoundsException("there is no such place");
        }
        return kind;
    }

    private void requireJar(int kind) {
        if (!store.hasJar(kind)) {
            throw new IllegalStateException("there is no jar of the kind");
        }
    }

    /** Kinds in their order: the jars of a shelf from its hand on, or a list from its eldest on. */
    private static final class Row {
        private final int[] kinds;
        private int length;

        Row() {
            kinds = new int[KINDS];
            length = 0;
        }

        void become(Row other) {
            for (int i = 0; i < kinds.length && i < other.kinds.length; i++) {
                kinds[i] = other.kinds[i];
            }
            length = other.length;
        }

        int at(int place) {
            return place >= 0 && place < length && place < kinds.length ? kinds[place] : NONE;
        }

        int placeOf(int kind) {
            for (int i = 0; i < length && i < kinds.length; i++) {
                if (kinds[i] == kind) {
                    return i;
                }
            }
            return NONE;
        }

        boolean has(int kind) {
            return placeOf(kind) != NONE;
        }

        void append(int kind) {
            if (length >= 0 && length < kinds.length) {
                kinds[length] = kind;
                length++;
            }
        }

        void takeOut(int place) {
            if (place < 0 || place >= length) {
                return;
            }
            for (int i = place + 1; i < length && i < kinds.length; i++) {
                kinds[i - 1] = kinds[i];
            }
            length--;
        }

        void forgetEldest(int most) {
            for (int surplus = length - most; surplus > 0; surplus--) {
                takeOut(0);
            }
        }

        long digestKinds(long start) {
            long d = start;
            for (int place = 0; place < length; place++) {
                d = d * DIGEST_FACTOR + at(place);
            }
            return d;
        }
    }

    /** A number for each kind. What stands there for a kind without a jar means nothing. */
    private static final class Table {
        private final int[] numbers;

        Table() {
            numbers = new int[KINDS];
        }

        void become(Table other) {
            for (int i = 0; i < numbers.length && i < other.numbers.length; i++) {
                numbers[i] = other.numbers[i];
            }
        }

        int of(int kind) {
            return kind >= 0 && kind < numbers.length ? numbers[kind] : 0;
        }

        void put(int kind, int number) {
            if (kind >= 0 && kind < numbers.length) {
                numbers[kind] = number;
            }
        }
    }

    /** All that a pantry holds, and how it changes. It throws nothing: its callers look first. */
    private static final class Store {
        private final Row newRow;
        private final Row triedRow;
        private final Row newList;
        private final Row triedList;
        private final Table touches;
        private final Table pins;
        private final Table fetches;
        private int places;
        private int goal;
        private int hits;
        private int misses;
        private int rememberedMisses;
        private int looks;

        Store() {
            newRow = new Row();
            triedRow = new Row();
            newList = new Row();
            triedList = new Row();
            touches = new Table();
            pins = new Table();
            fetches = new Table();
            places = PLACES_AT_FIRST;
        }

        void become(Store other) {
            newRow.become(other.newRow);
            triedRow.become(other.triedRow);
            newList.become(other.newList);
            triedList.become(other.triedList);
            touches.become(other.touches);
            pins.become(other.pins);
            fetches.become(other.fetches);
            places = other.places;
            goal = other.goal;
            hits = other.hits;
            misses = other.misses;
            rememberedMisses = other.rememberedMisses;
            looks = other.looks;
        }

        Row rowOf(int shelf) {
            return shelf == NEW ? newRow : triedRow;
        }

        Row listOf(int shelf) {
            return shelf == NEW ? newList : triedList;
        }

        boolean hasJar(int kind) {
            return newRow.has(kind) || triedRow.has(kind);
        }

        int jars() {
            return newRow.length + triedRow.length;
        }

        int pinnedJars() {
            return pinnedOn(newRow) + pinnedOn(triedRow);
        }

        int pinnedOn(Row row) {
            int pinned = 0;
            for (int place = 0; place < row.length; place++) {
                if (pins.of(row.at(place)) > 0) {
                    pinned++;
                }
            }
            return pinned;
        }

        /** What fetching the kind would tell; it changes nothing. */
        int forecast(int kind) {
            if (hasJar(kind)) {
                return HIT;
            }
            if (jars() >= places && pinnedJars() >= jars()) {
                return CANNOT_BE_FETCHED;
            }
            if (newList.has(kind)) {
                return REMEMBERED_BY_NEW;
            }
            return triedList.has(kind) ? REMEMBERED_BY_TRIED : NOT_REMEMBERED;
        }

        int bring(int kind) {
            int outcome = forecast(kind);
            if (outcome == CANNOT_BE_FETCHED) {
                return outcome;
            }
            if (outcome == HIT) {
                hits++;
                touches.put(kind, 1);
                fetches.put(kind, fetches.of(kind) + 1);
                return outcome;
            }
            misses++;
            recall(kind, outcome);
            if (jars() >= places) {
                sweep();
            }
            placeNewJar(kind, outcome == NOT_REMEMBERED ? newRow : triedRow);
            return outcome;
        }

        int bringSeries(int from, int step, int many) {
            int hitsBefore = hits;
            for (int i = 0; i < many; i++) {
                bring((from + i * step) % KINDS);
            }
            return hits - hitsBefore;
        }

        private void recall(int kind, int outcome) {
            if (outcome == REMEMBERED_BY_NEW) {
                goal = Math.min(places, goal + turn(triedList, newList));
                newList.takeOut(newList.placeOf(kind));
                rememberedMisses++;
            } else if (outcome == REMEMBERED_BY_TRIED) {
                goal = Math.max(0, goal - turn(newList, triedList));
                triedList.takeOut(triedList.placeOf(kind));
                rememberedMisses++;
            }
        }

        private static int turn(Row otherList, Row ownList) {
            int own = ownList.length;
            return own < 1 ? 1 : Math.max(1, otherList.length / own);
        }

        private void placeNewJar(int kind, Row row) {
            row.append(kind);
            touches.put(kind, 0);
            pins.put(kind, 0);
            fetches.put(kind, 1);
        }

        /** Sweeps till one jar leaves; returns its kind, or NONE if there is no jar that can leave. */
        int sweep() {
            if (pinnedJars() >= jars()) {
                return NONE;
            }
            for (int look = 0; look < MOST_LOOKS; look++) {
                int shelf = givingShelf();
                Row row = rowOf(shelf);
                int kind = row.at(0);
                row.takeOut(0);
                looks++;
                if (pins.of(kind) > 0) {
                    row.append(kind);
                } else if (touches.of(kind) > 0) {
                    touches.put(kind, 0);
                    triedRow.append(kind);
                } else {
                    listOf(shelf).append(kind);
                    listOf(shelf).forgetEldest(places);
                    return kind;
                }
            }
            return NONE;
        }

        private int givingShelf() {
            boolean newCanGive = pinnedOn(newRow) < newRow.length;
            boolean newHasEnough = newRow.length >= Math.max(1, goal);
            boolean triedCannotGive = pinnedOn(triedRow) >= triedRow.length;
            return newCanGive && (newHasEnough || triedCannotGive) ? NEW : TRIED;
        }

        int changePins(int kind, int more) {
            pins.put(kind, pins.of(kind) + more);
            return pins.of(kind);
        }

        /** Returns how often the jar was fetched. */
        int remove(int kind) {
            newRow.takeOut(newRow.placeOf(kind));
            triedRow.takeOut(triedRow.placeOf(kind));
            return fetches.of(kind);
        }

        /** The goal is cut only behind the sweeping, which goes by the goal as it was. */
        void resize(int placesFromNowOn) {
            places = placesFromNowOn;
            for (int surplus = jars() - places; surplus > 0; surplus--) {
                sweep();
            }
            goal = Math.min(goal, places);
            newList.forgetEldest(places);
            triedList.forgetEldest(places);
        }

        int detail(int kind, int what) {
            int shelf = newRow.has(kind) ? NEW : TRIED;
            int place = rowOf(shelf).placeOf(kind);
            if (place == NONE) {
                return NONE;
            }
            switch (what) {
                case 0: return shelf;
                case 1: return place;
                case 2: return touches.of(kind);
                case 3: return pins.of(kind);
                default: return fetches.of(kind);
            }
        }

        int tally(int what) {
            switch (what) {
                case 0: return places;
                case 1: return newRow.length;
                case 2: return triedRow.length;
                case 3: return newList.length;
                case 4: return triedList.length;
                case 5: return goal;
                case 6: return hits;
                case 7: return misses;
                case 8: return rememberedMisses;
                case 9: return looks;
                default: return pinnedJars();
            }
        }

        int fetchesOfAll() {
            int sum = 0;
            for (int kind = 0; kind < KINDS; kind++) {
                if (hasJar(kind)) {
                    sum += fetches.of(kind);
                }
            }
            return sum;
        }

        long digestJars(long start, Row row) {
            long d = start;
            for (int place = 0; place < row.length; place++) {
                int kind = row.at(place);
                d = d * DIGEST_FACTOR + kind;
                d = d * DIGEST_FACTOR + touches.of(kind);
                d = d * DIGEST_FACTOR + pins.of(kind);
                d = d * DIGEST_FACTOR + fetches.of(kind);
            }
            return d;
        }
    }
}
