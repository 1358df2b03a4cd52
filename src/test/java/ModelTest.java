import java.util.Random;

/** Long runs of calls, wrong ones among them, against the model. */
public final class ModelTest {
    private static final int RUNS = 1000;
    private static final int CALLS = 150;
    private static final int[] ODD = {Integer.MIN_VALUE, Integer.MAX_VALUE, -2, -1, 8, 9, 5, 6, 41, 1000001};
    private static final int CHANGING = 10;

    private final Random random;
    private final Run run = new Run();
    private final BagModel model = run.model;
    /** How often each kind of call was done, and each exception came, so that no run is idle. */
    private final int[][] seen;

    private ModelTest(long seed, int[][] seen) {
        this.random = new Random(seed);
        this.seen = seen;
    }

    public static void main(String[] args) {
        int[][] seen = new int[Run.NAMES.length][5];
        for (int i = 0; i < RUNS; i++) {
            ModelTest test = new ModelTest(i, seen);
            String wrong = i % 20 == 0 ? test.askAllAlong() : test.lookNowAndThen();
            if (wrong != null) {
                test.run.tell("run " + i + ": " + wrong);
                System.exit(1);
            }
        }
        System.out.println(RUNS + " runs are as the model's");
        if (isIdle(seen)) {
            System.out.println("some kind of call was never tried");
            System.exit(1);
        }
    }

    private static boolean isIdle(int[][] seen) {
        boolean idle = false;
        for (int i = 0; i < Run.NAMES.length; i++) {
            System.out.println("  " + Run.NAMES[i] + ": done " + seen[i][0] + ", index " + seen[i][1] + ", state "
                + seen[i][2] + ", argument " + seen[i][3] + ", bound " + seen[i][4]);
            idle |= seen[i][0] == 0;
            idle |= i < CHANGING && (seen[i][1] == 0 || seen[i][2] == 0);
        }
        for (int i : new int[] {3, 4, 8, 9}) {
            idle |= seen[i][4] == 0;
        }
        return idle;
    }

    /** A run as long as the document lets it be, up to the last call. */
    private String askAllAlong() {
        String wrong = null;
        while (wrong == null && run.length() < Run.MOST_CALLS) {
            wrong = call(random.nextInt(2) == 0 ? CHANGING + random.nextInt(7) : pickKind());
        }
        return wrong;
    }

    private String lookNowAndThen() {
        String wrong = null;
        while (wrong == null && run.length() < CALLS) {
            wrong = call(pickKind());
            if (wrong == null && (random.nextInt(6) == 0 || run.length() == CALLS)) {
                wrong = run.stateDifference();
            }
        }
        return wrong;
    }

    private String call(int kind) {
        String wrong = run.call(new Run.Step(kind, arguments(kind), random.nextBoolean()));
        seen[kind][run.outcome()]++;
        return wrong;
    }

    private int pickKind() {
        int roll = random.nextInt(100);
        if (roll < 45) {
            return 8;
        }
        if (roll < 55) {
            return 9;
        }
        return roll < 62 ? 7 : random.nextInt(7);
    }

    private int[] arguments(int kind) {
        int[] with = kind < CHANGING ? changing(kind) : asking(kind);
        if (random.nextInt(12) == 0) {
            with[random.nextInt(with.length)] = ODD[random.nextInt(ODD.length)];
        }
        return with;
    }

    private int[] changing(int kind) {
        int r = kind == 7 ? random.nextInt(8) : likelyFree();
        int s = likelySource();
        int t = likelySource();
        switch (kind) {
            case 0: return new int[] {r, 1 + random.nextInt(4)};
            case 1: return new int[] {r, s, column(s), random.nextInt(6), small()};
            case 2: return chosen(r, s);
            case 3: return new int[] {r, s, t, column(s), column(t)};
            case 4: return new int[] {r, s, t};
            case 5: return new int[] {r, s};
            case 6: return new int[] {r, s, random.nextInt(3) == 0 ? -1 : column(s), random.nextInt(4), column(s)};
            case 7: return new int[] {r};
            case 8: return new int[] {likelyTable(), small(), small(), small(), small(), times()};
            default: return new int[] {likelyTable(), small(), step(), small(), step(), 1 + random.nextInt(many())};
        }
    }

    private int[] asking(int kind) {
        int s = likelySource();
        switch (kind) {
            case 13: return new int[] {s, small(), small(), small(), small()};
            case 14: return new int[] {s, random.nextInt(6), random.nextInt(5)};
            case 16: return new int[] {random.nextInt(3)};
            default: return new int[] {s};
        }
    }

    private int many() {
        return random.nextInt(4) == 0 ? 41 : 8;
    }

    private int[] chosen(int r, int s) {
        int[] with = {r, s, -1, -1, -1, -1};
        int wanted = 1 + random.nextInt(4);
        for (int i = 0; i < wanted; i++) {
            with[2 + i] = column(s);
        }
        return with;
    }

    private int likelyFree() {
        int r = random.nextInt(8);
        for (int i = 0; i < 5 && model.relations[r] != null; i++) {
            r = (r + 1) % 8;
        }
        return r;
    }

    private int likelySource() {
        int r = random.nextInt(8);
        for (int i = 0; i < 8 && model.relations[r] == null; i++) {
            r = (r + 1) % 8;
        }
        return r;
    }

    private int likelyTable() {
        int r = random.nextInt(8);
        for (int i = 0; i < 7 && (model.relations[r] == null || model.relations[r].maker != null); i++) {
            r = (r + 1) % 8;
        }
        return random.nextInt(15) == 0 ? random.nextInt(8) : r;
    }

    private int column(int r) {
        return model.relations[r] == null ? 0 : random.nextInt(model.relations[r].width);
    }

    private int small() {
        int roll = random.nextInt(40);
        return roll == 0 ? Integer.MAX_VALUE - random.nextInt(2) : roll == 1 ? Integer.MIN_VALUE + random.nextInt(2)
            : random.nextInt(5) - 1;
    }

    private int step() {
        int roll = random.nextInt(20);
        return roll == 0 ? Integer.MIN_VALUE : roll == 1 ? 1 << 30 : random.nextInt(4) - 1;
    }

    private int times() {
        int roll = random.nextInt(20);
        int n = roll == 0 ? 1000000 : roll == 1 ? 31622 + random.nextInt(2) : roll == 2 ? 1000
            : 1 + random.nextInt(3);
        return random.nextInt(3) == 0 ? -n : n;
    }
}
