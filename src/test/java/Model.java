import java.util.ArrayList;
import java.util.List;

/**
 * The document once more, written in another way (jars as objects in lists, a copy for each
 * question), to be compared with the program. It answers REFUSED_ .. where an exception is due.
 */
final class Model {
    static final long REFUSED_INDEX = Long.MIN_VALUE;
    static final long REFUSED_ARGUMENT = Long.MIN_VALUE + 1;
    static final long REFUSED_STATE = Long.MIN_VALUE + 2;

    private static final class Jar {
        final int kind;
        boolean touched;
        int pins;
        int fetched = 1;

        Jar(int kind) {
            this.kind = kind;
        }

        Jar copy() {
            Jar copy = new Jar(kind);
            copy.touched = touched;
            copy.pins = pins;
            copy.fetched = fetched;
            return copy;
        }
    }

    private final List<List<Jar>> shelves = List.of(new ArrayList<>(), new ArrayList<>());
    private final List<List<Integer>> lists = List.of(new ArrayList<>(), new ArrayList<>());
    private int places = 6;
    private int goal = 0;
    private int hits = 0;
    private int misses = 0;
    private int remembered = 0;
    private int looks = 0;

    private Model copy() {
        Model copy = new Model();
        for (int shelf = 0; shelf < 2; shelf++) {
            for (Jar jar : shelves.get(shelf)) {
                copy.shelves.get(shelf).add(jar.copy());
            }
            copy.lists.get(shelf).addAll(lists.get(shelf));
        }
        copy.places = places;
        copy.goal = goal;
        copy.hits = hits;
        copy.misses = misses;
        copy.remembered = remembered;
        copy.looks = looks;
        return copy;
    }

    private Jar find(int kind) {
        for (Jar jar : all()) {
            if (jar.kind == kind) {
                return jar;
            }
        }
        return null;
    }

    private List<Jar> all() {
        List<Jar> all = new ArrayList<>(shelves.get(0));
        all.addAll(shelves.get(1));
        return all;
    }

    private static int pinned(List<Jar> jars) {
        int pinned = 0;
        for (Jar jar : jars) {
            pinned += jar.pins > 0 ? 1 : 0;
        }
        return pinned;
    }

    private void shorten(int shelf) {
        while (lists.get(shelf).size() > places) {
            lists.get(shelf).remove(0);
        }
    }

    private int sweep() {
        while (true) {
            List<Jar> fresh = shelves.get(0);
            List<Jar> tried = shelves.get(1);
            boolean some = pinned(fresh) != fresh.size();
            boolean gives = some && (fresh.size() >= (goal == 0 ? 1 : goal) || pinned(tried) == tried.size());
            int shelf = gives ? 0 : 1;
            Jar jar = shelves.get(shelf).remove(0);
            looks++;
            if (jar.pins > 0) {
                shelves.get(shelf).add(jar);
            } else if (jar.touched) {
                jar.touched = false;
                tried.add(jar);
            } else {
                lists.get(shelf).add(jar.kind);
                shorten(shelf);
                return jar.kind;
            }
        }
    }

    private static boolean bad(int number, int least, int most) {
        return number < least || number > most;
    }

    long fetch(int kind) {
        if (bad(kind, 0, 39)) {
            return REFUSED_INDEX;
        }
        Jar jar = find(kind);
        if (jar != null) {
            jar.touched = true;
            jar.fetched++;
            hits++;
            return 0;
        }
        if (all().size() == places && pinned(all()) == places) {
            return REFUSED_STATE;
        }
        misses++;
        int answer = 1;
        for (int shelf = 0; shelf < 2; shelf++) {
            List<Integer> own = lists.get(shelf);
            if (own.contains(kind)) {
                int turn = lists.get(1 - shelf).size() / own.size();
                turn = turn == 0 ? 1 : turn;
                goal = shelf == 0 ? goal + turn : goal - turn;
                goal = goal > places ? places : goal < 0 ? 0 : goal;
                own.remove(Integer.valueOf(kind));
                answer = 2 + shelf;
            }
        }
        remembered += answer > 1 ? 1 : 0;
        if (all().size() == places) {
            sweep();
        }
        shelves.get(answer == 1 ? 0 : 1).add(new Jar(kind));
        return answer;
    }

    long fetchAll(int from, int step, int many) {
        if (bad(from, 0, 39)) {
            return REFUSED_INDEX;
        }
        if (bad(step, 0, 39) || bad(many, 1, 30)) {
            return REFUSED_ARGUMENT;
        }
        int found = 0;
        int kind = from;
        for (int i = 0; i < many; i++) {
            found += fetch(kind) == 0 ? 1 : 0;
            kind = (kind + step) % 40;
        }
        return found;
    }

    long pin(int kind) {
        if (bad(kind, 0, 39)) {
            return REFUSED_INDEX;
        }
        Jar jar = find(kind);
        return jar == null || jar.pins == 9 ? REFUSED_STATE : ++jar.pins;
    }

    long unpin(int kind) {
        if (bad(kind, 0, 39)) {
            return REFUSED_INDEX;
        }
        Jar jar = find(kind);
        return jar == null || jar.pins == 0 ? REFUSED_STATE : --jar.pins;
    }

    long eat(int kind) {
        if (bad(kind, 0, 39)) {
            return REFUSED_INDEX;
        }
        Jar jar = find(kind);
        if (jar == null || jar.pins > 0) {
            return REFUSED_STATE;
        }
        shelves.get(0).remove(jar);
        shelves.get(1).remove(jar);
        return jar.fetched;
    }

    long setPlaces(int number) {
        if (bad(number, 2, 12)) {
            return REFUSED_ARGUMENT;
        }
        if (pinned(all()) > number) {
            return REFUSED_STATE;
        }
        int before = places;
        places = number;
        while (all().size() > places) {
            sweep();
        }
        goal = goal > places ? places : goal;
        shorten(0);
        shorten(1);
        return before;
    }

    long setGoal(int number) {
        if (bad(number, 0, places)) {
            return REFUSED_ARGUMENT;
        }
        int before = goal;
        goal = number;
        return before;
    }

    long jar(int kind, int what) {
        if (bad(kind, 0, 39) || bad(what, 0, 4)) {
            return REFUSED_INDEX;
        }
        Jar jar = find(kind);
        if (jar == null) {
            return -1;
        }
        int shelf = shelves.get(0).contains(jar) ? 0 : 1;
        int[] answers = {shelf, shelves.get(shelf).indexOf(jar), jar.touched ? 1 : 0, jar.pins, jar.fetched};
        return answers[what];
    }

    long shelf(int shelf, int place) {
        if (bad(shelf, 0, 1) || bad(place, 0, shelves.get(shelf).size() - 1)) {
            return REFUSED_INDEX;
        }
        return shelves.get(shelf).get(place).kind;
    }

    long ghost(int shelf, int place) {
        if (bad(shelf, 0, 1) || bad(place, 0, lists.get(shelf).size() - 1)) {
            return REFUSED_INDEX;
        }
        return lists.get(shelf).get(place);
    }

    private int[] counts() {
        return new int[] {places, shelves.get(0).size(), shelves.get(1).size(), lists.get(0).size(),
            lists.get(1).size(), goal, hits, misses, remembered, looks, pinned(all())};
    }

    long count(int what) {
        return bad(what, 0, 10) ? REFUSED_INDEX : counts()[what];
    }

    long next() {
        return pinned(all()) == all().size() ? -1 : copy().sweep();
    }

    long would(int kind) {
        long answer = copy().fetch(kind);
        return answer == REFUSED_STATE ? -9 : answer;
    }

    long trial(int from, int step, int many) {
        return copy().fetchAll(from, step, many);
    }

    long advise(int from, int step, int many) {
        long refused = trial(from, step, many);
        if (refused < 0) {
            return refused;
        }
        long best = -1;
        long most = -1;
        for (int number = 12; number >= 2; number--) {
            Model copy = copy();
            if (copy.setPlaces(number) >= 0) {
                long found = copy.fetchAll(from, step, many);
                if (found >= most) {
                    most = found;
                    best = number;
                }
            }
        }
        return best;
    }

    double mean() {
        double sum = 0;
        for (Jar jar : all()) {
            sum += jar.fetched;
        }
        return all().isEmpty() ? 0 : sum / all().size();
    }

    long digest() {
        List<Integer> numbers = new ArrayList<>();
        for (int number : counts()) {
            numbers.add(number);
        }
        for (int shelf = 0; shelf < 2; shelf++) {
            for (Jar jar : shelves.get(shelf)) {
                numbers.addAll(List.of(jar.kind, jar.touched ? 1 : 0, jar.pins, jar.fetched));
            }
            numbers.addAll(lists.get(shelf));
        }
        long d = 1541;
        for (int number : numbers) {
            d = d * 31 + number;
        }
        return d;
    }
}
