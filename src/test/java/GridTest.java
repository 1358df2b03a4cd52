import java.util.List;

/**
 * Every method with every mixture of arguments on both sides of their boundaries, from states of few and of
 * full relations, against the model: the answer or the exception, and all that can be asked afterwards.
 */
public final class GridTest {
    private static final int MIN = Integer.MIN_VALUE;
    private static final int MAX = Integer.MAX_VALUE;
    /** A refused call leaves its run as it is; looking at it costs the more the longer it is. */
    private static final int LONGEST = 60;

    private static final int[] PLACES = {-1, 0, 5, 6, 7, 8};
    private static final int[] SOURCES = {-1, 0, 2, 3, 5, 7, 8};
    private static final int[] COLUMNS = {-2, -1, 0, 1, 2, 3};
    private static final int[] EDGES = {MIN, MAX, -1, 0, 1, 2, 3, 4, 5, 6, 7, 8};
    private static final int[] PUT_TIMES = {MIN, -1000001, -1000000, -6, -5, -4, -1, 0, 1, 1000000, 1000001, MAX};
    private static final int[] FILL_TIMES = {MIN, -1, 0, 1, 2, 15, 16, 17, 20, 21, 40, 41, MAX};

    private final List<Run.Step> start;
    private final String name;
    private Run run = null;
    private int asked = 0;
    private int refused = 0;

    private GridTest(String name, List<Run.Step> start) {
        this.name = name;
        this.start = start;
    }

    public static void main(String[] args) {
        GridTest few = new GridTest("few", few());
        few.views();
        few.changes(new int[] {-1, 0, 1, 2, 3, 6, 8}, new int[] {MIN, 1, 3, MAX}, new int[] {-2, 3});
        few.questions();
        GridTest full = new GridTest("full", full());
        full.changes(new int[] {0, 1, 3, 4, 7}, new int[] {-1, 0, 15, MAX}, new int[] {0, 1});
        full.questions();
        few.end();
        full.end();
    }

    private static Run.Step step(int kind, int... with) {
        return new Run.Step(kind, with, false);
    }

    /** Tables 0, 2, 3 of 2, 3, 1 columns and views 1, 4, 5; 6 and 7 are none. */
    private static List<Run.Step> few() {
        return List.of(step(0, 0, 2), step(5, 1, 0), step(0, 2, 3), step(0, 3, 1), step(4, 4, 0, 1),
            step(6, 5, 4, 0, 1, 1), step(8, 2, 1, 2, 3, 0, 2), step(8, 3, 1, 0, 0, 0, 1),
            step(8, 0, 3, 1, 0, 0, 2), step(8, 0, 1, 3, 0, 0, 5), step(8, 0, 1, -2, 0, 0, 1));
    }

    /** Table 0 has 19 rows, 2 as many; row (0) of 7 is at the bound of times; all places are taken. */
    private static List<Run.Step> full() {
        return List.of(step(0, 0, 2), step(2, 1, 0, 0, -1, -1, -1), step(4, 2, 1, 1), step(0, 3, 1), step(0, 4, 1),
            step(3, 5, 3, 4, 0, 0), step(2, 6, 5, 0, -1, -1, -1), step(4, 7, 6, 3), step(9, 0, 0, 1, 0, 0, 19),
            step(8, 3, 0, 0, 0, 0, 1000), step(8, 4, 0, 0, 0, 0, 999999));
    }

    private void views() {
        ask(0, PLACES, EDGES);
        for (boolean flag : new boolean[] {false, true}) {
            ask(1, flag, new int[] {-1, 0, 6, 8}, new int[] {0, 2, 3, 7}, COLUMNS, new int[] {MIN, -1, 0, 3, 5, 6},
                new int[] {MIN, -1, 0, 1, 2, 3, MAX});
            ask(4, flag, PLACES, SOURCES, SOURCES);
        }
        int[] chosen = {-2, -1, 0, 1, 2};
        ask(2, new int[] {-1, 0, 6}, new int[] {0, 2, 3, 7}, chosen, chosen, chosen, chosen);
        ask(3, new int[] {0, 6, 8}, SOURCES, SOURCES, COLUMNS, COLUMNS);
        ask(5, EDGES, EDGES);
        ask(6, new int[] {-1, 0, 6, 8}, SOURCES, COLUMNS, new int[] {-1, 0, 1, 2, 3, 4}, COLUMNS);
    }

    private void changes(int[] tables, int[] first, int[] second) {
        ask(7, EDGES);
        ask(8, tables, first, second, new int[] {0, 3}, new int[] {0, 9}, PUT_TIMES);
        ask(9, tables, first, new int[] {MIN, 0, 1}, second, new int[] {0, 1}, FILL_TIMES);
    }

    private void questions() {
        for (int kind : new int[] {10, 11, 12, 15, 16}) {
            ask(kind, EDGES);
        }
        ask(13, EDGES, new int[] {0, 1, 3}, new int[] {-2, 0, 1, 3}, new int[] {0, 3}, new int[] {0, MAX});
        ask(14, EDGES, new int[] {MIN, -1, 0, 1, 3, 18, 19, 20, MAX}, EDGES);
    }

    private void ask(int kind, int[]... values) {
        ask(kind, false, values);
    }

    /** All mixtures, counted as a number whose digits are the places in the arrays. */
    private void ask(int kind, boolean flag, int[]... values) {
        int mixtures = 1;
        for (int[] each : values) {
            mixtures *= each.length;
        }
        for (int mixture = 0; mixture < mixtures; mixture++) {
            int[] with = new int[values.length];
            int left = mixture;
            for (int i = 0; i < values.length; i++) {
                with[i] = values[i][left % values[i].length];
                left /= values[i].length;
            }
            askOne(new Run.Step(kind, with, flag));
        }
    }

    private void askOne(Run.Step step) {
        if (run == null || run.length() > LONGEST) {
            run = new Run();
            for (Run.Step first : start) {
                fail(run.call(first));
            }
        }
        fail(run.call(step));
        fail(run.stateDifference());
        asked++;
        if (run.outcome() == 0) {
            run = null;
        } else {
            refused++;
        }
    }

    private void fail(String wrong) {
        if (wrong != null) {
            run.tell(name + ": " + wrong);
            System.exit(1);
        }
    }

    private void end() {
        System.out.println(name + ": " + asked + " calls are as the model's, " + refused + " of them refused");
        if (refused == 0 || refused == asked) {
            System.exit(1);
        }
    }
}
