/** Many runs of 512 calls: each answer is compared with the model's, and the digest, each second call, too. */
public final class ModelTest {
    private static final int RUNS = 800;
    /** Each one with a call of digest() behind it, so that an object is not used beyond its 512th call. */
    private static final int STEPS = 256;

    private static final String[] NAMES = {"fetch", "fetchAll", "pin", "unpin", "eat", "setPlaces", "setGoal",
        "jar", "shelf", "ghost", "count", "next", "would", "trial", "advise", "mean"};
    /** How often a call is chosen, fetches most of all; each fourth run pins much. */
    private static final int[] WEIGHTS = {30, 8, 6, 6, 4, 3, 4, 6, 4, 4, 3, 4, 6, 3, 3, 2};
    private static final int[] PINNING = {20, 6, 20, 6, 4, 6, 4, 4, 3, 3, 3, 6, 8, 3, 4, 2};

    private static long seed;

    public static void main(String[] args) {
        for (int run = 0; run < RUNS; run++) {
            seed = 7919L * run + 17;
            if (!runAgrees(run)) {
                break;
            }
        }
        Checks.end();
    }

    private static boolean runAgrees(int run) {
        PinnedPantry pantry = new PinnedPantry();
        Model model = new Model();
        int kinds = new int[] {8, 14, 25, 40}[run / 4 % 4];
        int[] weights = run % 4 == 3 ? PINNING : WEIGHTS;
        for (int step = 0; step < STEPS; step++) {
            int which = choose(weights);
            int a = argument(which, 0, kinds);
            int b = argument(which, 1, kinds);
            int c = argument(which, 2, kinds);
            long want = modelAnswer(model, which, a, b, c);
            long got = pantryAnswer(pantry, which, a, b, c);
            if (got != want || pantry.digest() != model.digest()) {
                Checks.fail("run " + run + ", step " + step + ": " + NAMES[which] + "(" + a + ", " + b + ", " + c
                    + ") answered " + got + ", due is " + want + "; digests " + pantry.digest() + ", due "
                    + model.digest());
                return false;
            }
        }
        return true;
    }

    /** Repeatable, and the same on every machine. */
    private static int upTo(int most) {
        seed = seed * 6364136223846793005L + 1442695040888963407L;
        return (int) ((seed >>> 33) % (most + 1));
    }

    private static int choose(int[] weights) {
        int sum = 0;
        for (int weight : weights) {
            sum += weight;
        }
        int rest = upTo(sum - 1);
        int which = 0;
        while (rest >= weights[which]) {
            rest -= weights[which];
            which++;
        }
        return which;
    }

    /** Mostly what is allowed, and now and then one beyond an edge. */
    private static int argument(int which, int position, int kinds) {
        if (upTo(29) == 0) {
            return new int[] {-1, 40, 31, 13, 1, 0, Integer.MAX_VALUE, Integer.MIN_VALUE}[upTo(7)];
        }
        String name = NAMES[which];
        if (name.equals("setPlaces")) {
            return 2 + upTo(10);
        }
        if (name.equals("setGoal")) {
            return upTo(8);
        }
        if (name.equals("count")) {
            return upTo(10);
        }
        if (name.equals("shelf") || name.equals("ghost")) {
            return position == 0 ? upTo(1) : upTo(6);
        }
        if (position == 0) {
            return upTo(kinds - 1);
        }
        if (name.equals("jar")) {
            return upTo(4);
        }
        return position == 1 ? upTo(39) : 1 + upTo(29);
    }

    private static long pantryAnswer(PinnedPantry pantry, int which, int a, int b, int c) {
        try {
            switch (NAMES[which]) {
                case "fetch": return pantry.fetch(a);
                case "fetchAll": return pantry.fetchAll(a, b, c);
                case "pin": return pantry.pin(a);
                case "unpin": return pantry.unpin(a);
                case "eat": return pantry.eat(a);
                case "setPlaces": return pantry.setPlaces(a);
                case "setGoal": return pantry.setGoal(a);
                case "jar": return pantry.jar(a, b);
                case "shelf": return pantry.shelf(a, b);
                case "ghost": return pantry.ghost(a, b);
                case "count": return pantry.count(a);
                case "next": return pantry.next();
                case "would": return pantry.would(a);
                case "trial": return pantry.trial(a, b, c);
                case "advise": return pantry.advise(a, b, c);
                default: return Double.doubleToLongBits(pantry.mean());
            }
        } catch (RuntimeException e) {
            return refusal(e.getClass());
        }
    }

    private static long refusal(Class<?> exception) {
        if (exception == IndexOutOfBoundsException.class) {
            return Model.REFUSED_INDEX;
        }
        if (exception == IllegalArgumentException.class) {
            return Model.REFUSED_ARGUMENT;
        }
        if (exception == IllegalStateException.class) {
            return Model.REFUSED_STATE;
        }
        throw new AssertionError(exception.getName());
    }

    private static long modelAnswer(Model model, int which, int a, int b, int c) {
        switch (NAMES[which]) {
            case "fetch": return model.fetch(a);
            case "fetchAll": return model.fetchAll(a, b, c);
            case "pin": return model.pin(a);
            case "unpin": return model.unpin(a);
            case "eat": return model.eat(a);
            case "setPlaces": return model.setPlaces(a);
            case "setGoal": return model.setGoal(a);
            case "jar": return model.jar(a, b);
            case "shelf": return model.shelf(a, b);
            case "ghost": return model.ghost(a, b);
            case "count": return model.count(a);
            case "next": return model.next();
            case "would": return model.would(a);
            case "trial": return model.trial(a, b, c);
            case "advise": return model.advise(a, b, c);
            default: return Double.doubleToLongBits(model.mean());
        }
    }
}
