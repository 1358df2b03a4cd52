import java.util.ArrayList;
import java.util.List;
import java.util.Random;

/** Long runs of calls, wrong ones among them, against the model; all state is compared after each call. */
public final class ModelTest {
    private static final int RUNS = 800;
    private static final int CALLS = 150;
    private static final int FULL_CALLS = 512;
    private static final int[] ODD = {Integer.MIN_VALUE, Integer.MAX_VALUE, -2, -1, 8, 9, 5, 6, 41, 1000001};
    private static final String[] NAMES = {
        "table", "select", "columns", "join", "both", "once", "group", "drop", "put", "fill"};

    private final Random random;
    private final BagViews real = new BagViews();
    private final BagModel model = new BagModel();
    private final List<String> calls = new ArrayList<>();
    /** How often each kind of call was done, and each exception came, so that no run is idle. */
    private final int[][] seen;

    private ModelTest(long seed, int[][] seen) {
        this.random = new Random(seed);
        this.seen = seen;
    }

    public static void main(String[] args) {
        int[][] seen = new int[NAMES.length][5];
        for (int run = 0; run < RUNS; run++) {
            ModelTest test = new ModelTest(run, seen);
            String wrong = test.run(run % 50 == 0 ? FULL_CALLS : CALLS);
            if (wrong != null) {
                System.out.println("run " + run + ": " + wrong);
                test.calls.forEach(System.out::println);
                System.exit(1);
            }
        }
        System.out.println(RUNS + " runs are as the model's");
        boolean idle = false;
        for (int i = 0; i < NAMES.length; i++) {
            System.out.println("  " + NAMES[i] + ": done " + seen[i][0] + ", index " + seen[i][1] + ", state "
                + seen[i][2] + ", argument " + seen[i][3] + ", bound " + seen[i][4]);
            idle |= seen[i][0] == 0 || seen[i][1] == 0 || seen[i][2] == 0;
        }
        for (int i : new int[] {3, 4, 8, 9}) {
            idle |= seen[i][4] == 0;
        }
        if (idle) {
            System.out.println("some kind of call was never tried");
            System.exit(1);
        }
    }

    private String run(int many) {
        for (int i = 0; i < many; i++) {
            int kind = pickKind();
            int[] with = arguments(kind);
            boolean flag = random.nextBoolean();
            calls.add(NAMES[kind] + java.util.Arrays.toString(with) + flag);
            String want = answer(() -> onModel(kind, with, flag));
            String got = answer(() -> onReal(kind, with, flag));
            seen[kind][outcome(want)]++;
            if (!want.equals(got)) {
                return "answered " + got + ", due is " + want;
            }
            String different = firstDifference();
            if (different != null) {
                return different;
            }
        }
        return null;
    }

    private static int outcome(String answer) {
        return answer.equals("IndexOutOfBoundsException") ? 1 : answer.equals("IllegalStateException") ? 2
            : answer.equals("IllegalArgumentException") ? 3 : answer.equals("UnsupportedOperationException") ? 4 : 0;
    }

    private int pickKind() {
        int roll = random.nextInt(100);
        if (roll < 45) {
            return 8;
        }
        if (roll < 55) {
            return 9;
        }
        return roll < 62 ? 7 : random.nextInt(7);
    }

    private int[] arguments(int kind) {
        int r = kind == 7 ? random.nextInt(8) : likelyFree();
        int s = likelySource();
        int t = likelySource();
        int[] with;
        switch (kind) {
            case 0: with = new int[] {r, 1 + random.nextInt(4)}; break;
            case 1: with = new int[] {r, s, column(s), random.nextInt(6), small(), 0}; break;
            case 2: with = chosen(r, s); break;
            case 3: with = new int[] {r, s, t, column(s), column(t)}; break;
            case 4: with = new int[] {r, s, t}; break;
            case 5: with = new int[] {r, s}; break;
            case 6: with = new int[] {r, s, random.nextInt(3) == 0 ? -1 : column(s), random.nextInt(4), column(s)}; break;
            case 7: with = new int[] {r}; break;
            case 8: with = new int[] {likelyTable(), small(), small(), small(), small(), times()}; break;
            default: with = new int[] {likelyTable(), small(), step(), small(), step(), 1 + random.nextInt(many())};
        }
        if (random.nextInt(12) == 0) {
            with[random.nextInt(with.length)] = ODD[random.nextInt(ODD.length)];
        }
        return with;
    }

    private int many() {
        return random.nextInt(4) == 0 ? 41 : 8;
    }

    private int[] chosen(int r, int s) {
        int[] with = {r, s, -1, -1, -1, -1};
        int wanted = 1 + random.nextInt(4);
        for (int i = 0; i < wanted; i++) {
            with[2 + i] = column(s);
        }
        return with;
    }

    private int likelyFree() {
        int r = random.nextInt(8);
        for (int i = 0; i < 5 && model.relations[r] != null; i++) {
            r = (r + 1) % 8;
        }
        return r;
    }

    private int likelySource() {
        int r = random.nextInt(8);
        for (int i = 0; i < 8 && model.relations[r] == null; i++) {
            r = (r + 1) % 8;
        }
        return r;
    }

    private int likelyTable() {
        int r = random.nextInt(8);
        for (int i = 0; i < 7 && (model.relations[r] == null || model.relations[r].maker != null); i++) {
            r = (r + 1) % 8;
        }
        return random.nextInt(15) == 0 ? random.nextInt(8) : r;
    }

    private int column(int r) {
        return model.relations[r] == null ? 0 : random.nextInt(model.relations[r].width);
    }

    private int small() {
        int roll = random.nextInt(40);
        return roll == 0 ? Integer.MAX_VALUE - random.nextInt(2) : roll == 1 ? Integer.MIN_VALUE + random.nextInt(2)
            : random.nextInt(5) - 1;
    }

    private int step() {
        int roll = random.nextInt(20);
        return roll == 0 ? Integer.MIN_VALUE : roll == 1 ? 1 << 30 : random.nextInt(4) - 1;
    }

    private int times() {
        int roll = random.nextInt(20);
        int n = roll == 0 ? 1000000 : roll == 1 ? 31622 + random.nextInt(2) : roll == 2 ? 1000
            : 1 + random.nextInt(3);
        return random.nextInt(3) == 0 ? -n : n;
    }

    private interface Call {
        long run();
    }

    private static String answer(Call call) {
        try {
            return "" + call.run();
        } catch (RuntimeException e) {
            return e.getClass().getSimpleName();
        }
    }

    private long onReal(int kind, int[] w, boolean flag) {
        switch (kind) {
            case 0: real.table(w[0], w[1]); return 0;
            case 1: real.select(w[0], w[1], w[2], w[3], w[4], flag); return 0;
            case 2: real.columns(w[0], w[1], w[2], w[3], w[4], w[5]); return 0;
            case 3: real.join(w[0], w[1], w[2], w[3], w[4]); return 0;
            case 4: real.both(w[0], w[1], w[2], flag); return 0;
            case 5: real.once(w[0], w[1]); return 0;
            case 6: real.group(w[0], w[1], w[2], w[3], w[4]); return 0;
            case 7: real.drop(w[0]); return 0;
            case 8: return real.put(w[0], w[1], w[2], w[3], w[4], w[5]);
            default: return real.fill(w[0], w[1], w[2], w[3], w[4], w[5]);
        }
    }

    private long onModel(int kind, int[] w, boolean flag) {
        switch (kind) {
            case 0: model.table(w[0], w[1]); return 0;
            case 1: model.select(w[0], w[1], w[2], w[3], w[4], flag); return 0;
            case 2: model.columns(w[0], w[1], w[2], w[3], w[4], w[5]); return 0;
            case 3: model.join(w[0], w[1], w[2], w[3], w[4]); return 0;
            case 4: model.both(w[0], w[1], w[2], flag); return 0;
            case 5: model.once(w[0], w[1]); return 0;
            case 6: model.group(w[0], w[1], w[2], w[3], w[4]); return 0;
            case 7: model.drop(w[0]); return 0;
            case 8: return model.put(w[0], w[1], w[2], w[3], w[4], w[5]);
            default: return model.fill(w[0], w[1], w[2], w[3], w[4], w[5]);
        }
    }

    private String firstDifference() {
        int tables = 0;
        int relations = 0;
        int rows = 0;
        for (int r = 0; r < 8; r++) {
            BagModel.Relation want = model.relations[r];
            String different = want == null ? noneDifference(r) : difference(r, want, want.rows());
            if (different != null) {
                return "relation " + r + ": " + different;
            }
            relations += want == null ? 0 : 1;
            tables += want != null && want.maker == null ? 1 : 0;
            rows += want == null ? 0 : want.rows().size();
        }
        boolean counted = real.count(0) == relations && real.count(1) == tables && real.count(2) == rows;
        return counted ? null : "counts differ";
    }

    private String noneDifference(int r) {
        String none = "IndexOutOfBoundsException";
        boolean same = real.width(r) == 0 && none.equals(answer(() -> real.rows(r)))
            && none.equals(answer(() -> real.size(r))) && none.equals(answer(() -> real.changed(r)))
            && none.equals(answer(() -> real.times(r, 0, 0, 0, 0))) && none.equals(answer(() -> real.cell(r, 0, 0)));
        return same ? null : "is not none";
    }

    private String difference(int r, BagModel.Relation want, BagModel.Rows rows) {
        StringBuilder text = new StringBuilder();
        long size = 0;
        for (List<Integer> row : rows.keySet()) {
            text.append(text.length() == 0 ? "" : " | ");
            row.forEach(value -> text.append(value).append(' '));
            text.append('x').append(rows.get(row));
            size += rows.get(row);
            int[] cells = {7, 7, 7, 7};
            for (int i = 0; i < row.size(); i++) {
                cells[i] = row.get(i);
            }
            if (real.times(r, cells[0], cells[1], cells[2], cells[3]) != rows.get(row)) {
                return "times of " + row;
            }
        }
        String is = Due.rowsOf(real, r);
        if (!is.equals(text.toString())) {
            return "is " + is + ", due is " + text;
        }
        if (real.width(r) != want.width || real.size(r) != size || real.changed(r) != want.changed) {
            return "width, size or changed: " + real.width(r) + " " + real.size(r) + " " + real.changed(r)
                + ", due is " + want.width + " " + size + " " + want.changed;
        }
        return null;
    }
}
