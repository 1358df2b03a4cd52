import java.util.ArrayList;
import java.util.Arrays;
import java.util.List;

/**
 * One run of calls, done on the class and on the model alike. The state is looked at on objects that get
 * the same calls again, so that no object gets more than the 512 calls that the document speaks of.
 */
final class Run {
    static final int MOST_CALLS = 512;
    static final String[] NAMES = {
        "table", "select", "columns", "join", "both", "once", "group", "drop", "put", "fill",
        "width", "rows", "size", "times", "cell", "changed", "count"};
    private static final int NONE_CALLS = 6;
    private static final int COUNT_CALLS = 3;

    record Step(int kind, int[] with, boolean flag) {
        @Override
        public String toString() {
            return NAMES[kind] + Arrays.toString(with) + (kind == 1 || kind == 4 ? " " + flag : "");
        }
    }

    final BagModel model = new BagModel();
    private final BagViews real = new BagViews();
    private final List<Step> steps = new ArrayList<>();
    /** What the latest call should have answered. */
    private String due = "";
    private BagViews looked = null;
    private int lookedCalls = 0;

    /** Null if both answer alike. */
    String call(Step step) {
        steps.add(step);
        looked = null;
        due = Due.said(() -> onModel(model, step.kind, step.with, step.flag));
        String got = Due.said(() -> onReal(real, step.kind, step.with, step.flag));
        return due.equals(got) ? null : "answered " + got + ", due is " + due;
    }

    int length() {
        return steps.size();
    }

    /** 0: an answer; 1 to 4: the exceptions in the document's order. */
    int outcome() {
        switch (due) {
            case "IndexOutOfBoundsException": return 1;
            case "IllegalStateException": return 2;
            case "IllegalArgumentException": return 3;
            case "UnsupportedOperationException": return 4;
            default: return 0;
        }
    }

    void tell(String wrong) {
        System.out.println(wrong);
        steps.forEach(step -> System.out.println("  " + step));
    }

    /** Null if all that can be asked is as the model has it. */
    String stateDifference() {
        for (int r = 0; r < 8; r++) {
            BagModel.Relation want = model.relations[r];
            String different = want == null ? noneDifference(r) : difference(r, want);
            if (different != null) {
                return "relation " + r + ": " + different;
            }
        }
        BagViews x = look(COUNT_CALLS);
        boolean counted = x.count(0) == model.count(0) && x.count(1) == model.count(1) && x.count(2) == model.count(2);
        return counted ? null : "counts differ";
    }

    /** An object with the run's calls behind it that may get some calls more. */
    private BagViews look(int calls) {
        if (looked == null || lookedCalls + calls > MOST_CALLS) {
            BagViews again = new BagViews();
            for (Step step : steps) {
                Due.said(() -> onReal(again, step.kind, step.with, step.flag));
            }
            looked = again;
            lookedCalls = steps.size();
        }
        lookedCalls += calls;
        if (lookedCalls > MOST_CALLS) {
            throw new AssertionError("the run is too long to look at");
        }
        return looked;
    }

    private String noneDifference(int r) {
        BagViews x = look(NONE_CALLS);
        String none = "IndexOutOfBoundsException";
        boolean same = x.width(r) == 0 && none.equals(Due.said(() -> x.rows(r)))
            && none.equals(Due.said(() -> x.size(r))) && none.equals(Due.said(() -> x.changed(r)))
            && none.equals(Due.said(() -> x.times(r, 0, 0, 0, 0))) && none.equals(Due.said(() -> x.cell(r, 0, 0)));
        return same ? null : "is not none";
    }

    private String difference(int r, BagModel.Relation want) {
        BagModel.Rows rows = want.rows();
        BagViews x = look(4 + rows.size() * (want.width + 2));
        String is = x.width(r) + " wide, " + x.rows(r) + " rows, size " + x.size(r) + ", changed " + x.changed(r);
        String due = want.width + " wide, " + rows.size() + " rows, size " + rows.all() + ", changed " + want.changed;
        if (!is.equals(due)) {
            return is + ", due is " + due;
        }
        int k = 0;
        for (List<Integer> row : rows.keySet()) {
            int[] cells = {7, 7, 7, 7};
            boolean same = x.cell(r, k, want.width) == rows.get(row);
            for (int column = 0; column < want.width; column++) {
                cells[column] = row.get(column);
                same &= x.cell(r, k, column) == cells[column];
            }
            if (!same || x.times(r, cells[0], cells[1], cells[2], cells[3]) != rows.get(row)) {
                return "row " + k + " is not " + row + " x" + rows.get(row);
            }
            k++;
        }
        return null;
    }

    private static long onReal(BagViews x, int kind, int[] w, boolean flag) {
        switch (kind) {
            case 0: x.table(w[0], w[1]); return 0;
            case 1: x.select(w[0], w[1], w[2], w[3], w[4], flag); return 0;
            case 2: x.columns(w[0], w[1], w[2], w[3], w[4], w[5]); return 0;
            case 3: x.join(w[0], w[1], w[2], w[3], w[4]); return 0;
            case 4: x.both(w[0], w[1], w[2], flag); return 0;
            case 5: x.once(w[0], w[1]); return 0;
            case 6: x.group(w[0], w[1], w[2], w[3], w[4]); return 0;
            case 7: x.drop(w[0]); return 0;
            case 8: return x.put(w[0], w[1], w[2], w[3], w[4], w[5]);
            case 9: return x.fill(w[0], w[1], w[2], w[3], w[4], w[5]);
            case 10: return x.width(w[0]);
            case 11: return x.rows(w[0]);
            case 12: return x.size(w[0]);
            case 13: return x.times(w[0], w[1], w[2], w[3], w[4]);
            case 14: return x.cell(w[0], w[1], w[2]);
            case 15: return x.changed(w[0]);
            default: return x.count(w[0]);
        }
    }

    private static long onModel(BagModel x, int kind, int[] w, boolean flag) {
        switch (kind) {
            case 0: x.table(w[0], w[1]); return 0;
            case 1: x.select(w[0], w[1], w[2], w[3], w[4], flag); return 0;
            case 2: x.columns(w[0], w[1], w[2], w[3], w[4], w[5]); return 0;
            case 3: x.join(w[0], w[1], w[2], w[3], w[4]); return 0;
            case 4: x.both(w[0], w[1], w[2], flag); return 0;
            case 5: x.once(w[0], w[1]); return 0;
            case 6: x.group(w[0], w[1], w[2], w[3], w[4]); return 0;
            case 7: x.drop(w[0]); return 0;
            case 8: return x.put(w[0], w[1], w[2], w[3], w[4], w[5]);
            case 9: return x.fill(w[0], w[1], w[2], w[3], w[4], w[5]);
            case 10: return x.width(w[0]);
            case 11: return x.at(w[0]).rows().size();
            case 12: return x.at(w[0]).rows().all();
            case 13: return x.times(w[0], w[1], w[2], w[3], w[4]);
            case 14: return x.cell(w[0], w[1], w[2]);
            case 15: return x.at(w[0]).changed;
            default: return x.count(w[0]);
        }
    }
}
