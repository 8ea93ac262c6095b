import java.util.Arrays;
import java.util.Map;
import java.util.Random;
import java.util.TreeMap;

/** Runs of calls by chance, from written seeds, that the class and the model have to answer alike. */
public final class ModelRunsTest {
    private static final int RUNS = 1000;
    /** Calls by chance and then a look at all items: together no more than the 512 that an object answers. */
    private static final int CALLS = 256;
    private static final int LOOKS_AT_TICKS = 88;
    /** For each call of the face, how often it is chosen. */
    private static final int[] WEIGHTS = {8, 2, 2, 2, 16, 1, 6, 4, 3, 2, 4, 12, 14, 8, 3, 6, 3, 1, 3, 12, 8};
    /** Bounds of the arguments, from 0 on; a little more is tried also. */
    private static final int[][] BOUNDS = {
        {8, 9, 9, 4, 4, 3, 8}, {30, 2}, {30, 3}, {3, 3}, {6, 26, 10, 4}, {}, {4, 14, 14}, {14, 3}, {14, 4}, {5},
        {6, 30}, {14, 9}, {150, 8}, {14, 3}, {6}, {3, 24, 24}, {6, 3, 2}, {6}, {24}, {24, 3, 4, 200, 201, 10},
        {24, 3, 3, 4, 3}};
    private static final int[] WILD = {-1, -2, Integer.MIN_VALUE, Integer.MAX_VALUE, 31, 64, 1000};

    private static final Map<String, Integer> SEEN = new TreeMap<>();

    public static void main(String[] args) {
        Check check = new Check();
        for (int seed = 0; seed < RUNS; seed++) {
            run(check, new Random(seed), seed);
        }
        System.out.println(SEEN);
        for (String name : Model.NAMES) {
            check.due(name + " answered something", SEEN.containsKey(name), true);
        }
        check.end();
    }

    private static void run(Check check, Random random, int seed) {
        HandArchive x = new HandArchive();
        Model model = new Model();
        // Some runs keep to small numbers, so that what is told comes back often.
        int most = 1 + random.nextInt(40);
        for (int call = 0; call < CALLS; call++) {
            int method = chosen(random);
            String name = Model.NAMES[method];
            both(check, x, model, seed, name, arguments(random, method, most));
        }
        for (int item = 0; item < 14; item++) {
            for (int what = 0; what < 9; what++) {
                both(check, x, model, seed, "signed", new int[] {item, what});
            }
            for (int what = 0; what < 3; what++) {
                both(check, x, model, seed, "readBack", new int[] {item, what});
            }
        }
        for (int look = 0; look < LOOKS_AT_TICKS; look++) {
            both(check, x, model, seed, "at", new int[] {random.nextInt(80), random.nextInt(8)});
        }
    }

    private static void both(Check check, HandArchive x, Model model, int seed, String name, int[] a) {
        Object want = model.call(name, a.clone());
        Object got = answer(x, name, a);
        String outcome = want instanceof Class ? name + "!" + ((Class<?>) want).getSimpleName() : name;
        SEEN.merge(outcome, 1, Integer::sum);
        check.due("seed " + seed + ": " + name + Arrays.toString(a) + " answered " + got
                + ", by the model " + want + "; alike", want.equals(got), true);
    }

    private static int chosen(Random random) {
        int left = random.nextInt(Arrays.stream(WEIGHTS).sum());
        int method = 0;
        while (left >= WEIGHTS[method]) {
            left -= WEIGHTS[method++];
        }
        return method;
    }

    private static int[] arguments(Random random, int method, int most) {
        int[] bounds = BOUNDS[method];
        int[] a = new int[bounds.length];
        for (int i = 0; i < a.length; i++) {
            int bound = bounds[i] > 5 && method != 12 && random.nextInt(3) > 0 ? Math.min(bounds[i], most) : bounds[i];
            a[i] = random.nextInt(bound);
            if (random.nextInt(60) == 0) {
                a[i] = bounds[i] - 1 + random.nextInt(2);
            } else if (random.nextInt(150) == 0) {
                a[i] = WILD[random.nextInt(WILD.length)];
            }
        }
        if (method == 4 && a[0] >= 1 && a[0] <= 3 && random.nextInt(12) > 0) {
            a[1] &= 3;
        }
        if (method == 4 && a[0] == 4) {
            a[2] &= 3;
            a[1] %= 1 + most;
        }
        if (method == 15 && random.nextInt(2) == 0) {
            a[2] = -1;
        }
        if (method == 19 && random.nextInt(4) > 0) {
            a[4] = a[3] + 1 + random.nextInt(20);
            a[0] %= 4;
            a[5] &= 3;
        }
        if (method == 20) {
            a[0] %= 4;
        }
        return a;
    }

    private static Object answer(HandArchive x, String name, int[] a) {
        try {
            return number(x, name, a);
        } catch (RuntimeException e) {
            return e.getClass();
        }
    }

    private static long number(HandArchive x, String name, int[] a) {
        switch (name) {
            case "sign": return x.sign(a[0], a[1], a[2], a[3], a[4], a[5], a[6]);
            case "nearest": return x.nearest(a[0], a[1]);
            case "written": return x.written(a[0], a[1]);
            case "loses": return x.loses(a[0], a[1]);
            case "item": return x.item(a[0], a[1], a[2], a[3]);
            case "clear": return x.clear();
            case "face": return x.face(a[0], a[1], a[2]);
            case "shown": return x.shown(a[0], a[1]);
            case "standsFor": return x.standsFor(a[0], a[1]);
            case "rule": return x.rule(a[0]);
            case "except": return x.except(a[0], a[1]) ? 1 : 0;
            case "signed": return x.signed(a[0], a[1]);
            case "at": return x.at(a[0], a[1]);
            case "readBack": return x.readBack(a[0], a[1]);
            case "take": return x.take(a[0]);
            case "make": return x.make(a[0], a[1], a[2]);
            case "allow": return x.allow(a[0], a[1], a[2] != 0);
            case "withdraw": return x.withdraw(a[0]);
            case "persons": return x.persons(a[0]);
            case "mark": return x.mark(a[0], a[1], a[2], a[3], a[4], a[5]);
            default: return x.agree(a[0], a[1], a[2], a[3], a[4]);
        }
    }
}
