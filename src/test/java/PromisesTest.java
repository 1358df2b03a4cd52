/** Each promise of the document by its number: ordinary inputs, edges and wrong inputs. */
public final class PromisesTest {
    private static final Class<IndexOutOfBoundsException> INDEX = IndexOutOfBoundsException.class;
    private static final Class<IllegalStateException> STATE = IllegalStateException.class;
    private static final Class<IllegalArgumentException> ARGUMENT = IllegalArgumentException.class;
    private static final Class<UnsupportedOperationException> BOUND = UnsupportedOperationException.class;
    private static final int NONE = BagViews.NONE;
    private static final int MIN = Integer.MIN_VALUE;
    private static final int MAX = Integer.MAX_VALUE;
    private static final int[] NO_RELATIONS = {-1, 8, MIN, MAX};

    private static final Due due = new Due();

    public static void main(String[] args) {
        newObject();
        table();
        select();
        selectRefuses();
        columns();
        columnsRefuses();
        join();
        joinRefuses();
        union();
        difference();
        bothRefuses();
        once();
        group();
        groupEnds();
        groupRefuses();
        drop();
        put();
        putRefuses();
        putIsRefusedAnywhere();
        fill();
        fillRefuses();
        width();
        rows();
        size();
        times();
        cell();
        changed();
        count();
        viewsOverViews();
        due.end();
    }

    /** Relation 0 has 2 columns and rows in another order than they are put; 1 is a view of it. */
    private static BagViews small() {
        BagViews x = new BagViews();
        x.table(0, 2);
        x.put(0, 3, 1, 0, 0, 2);
        x.put(0, 1, 3, 0, 0, 5);
        x.put(0, 1, -2, 0, 0, 1);
        x.put(0, 2, 2, 0, 0, 4);
        x.once(1, 0);
        return x;
    }

    private static void rowsAre(String what, BagViews x, int r, String want) {
        due.same(what, want, Due.rowsOf(x, r));
    }

    private static void newObject() {
        BagViews x = new BagViews();
        for (int r = 0; r < 8; r++) {
            int at = r;
            due.answer("1: width", 0, () -> x.width(at));
            due.refusal("1: rows of none", INDEX, () -> x.rows(at));
        }
        for (int what = 0; what < 3; what++) {
            int counted = what;
            due.answer("1: count", 0, () -> x.count(counted));
        }
        due.answer("1: NONE", -1, () -> BagViews.NONE);
        BagViews other = small();
        due.answer("1: one object's relations are not another's", 0, () -> x.width(0));
        due.answer("1: the other has its own", 2, () -> other.width(0));
    }

    private static void table() {
        BagViews x = new BagViews();
        for (int columns = 1; columns <= 4; columns++) {
            int wide = columns;
            due.done("2: table", () -> x.table(wide + 3, wide));
            due.answer("2: width", wide, () -> x.width(wide + 3));
            due.answer("2: no rows", 0, () -> x.rows(wide + 3));
        }
        due.done("2: table 0", () -> x.table(0, 1));
        for (int r : NO_RELATIONS) {
            due.refusal("2: no such relation", INDEX, () -> x.table(r, 1));
            due.refusal("2: relation before columns", INDEX, () -> x.table(r, 0));
        }
        due.refusal("2: is there", STATE, () -> x.table(7, 4));
        due.refusal("2: there before columns", STATE, () -> x.table(7, 5));
        for (int columns : new int[] {0, 5, -1, MIN, MAX}) {
            due.refusal("2: columns", ARGUMENT, () -> x.table(1, columns));
        }
        due.answer("2: a refused one is not made", 0, () -> x.width(1));
        x.put(4, 9, 0, 0, 0, 3);
        x.drop(4);
        x.table(4, 2);
        due.answer("2: made again, without rows", 0, () -> x.rows(4));
        x.once(1, 4);
        due.refusal("2: a view is there", STATE, () -> x.table(1, 1));
    }

    private static void select() {
        BagViews x = small();
        String[] byNumber = {
            "2 2 x4", "1 -2 x1 | 1 3 x5 | 3 1 x2", "1 -2 x1 | 1 3 x5",
            "2 2 x4 | 3 1 x2", "3 1 x2", "1 -2 x1 | 1 3 x5 | 2 2 x4"};
        String[] byColumn = {
            "2 2 x4", "1 -2 x1 | 1 3 x5 | 3 1 x2", "1 3 x5",
            "1 -2 x1 | 2 2 x4 | 3 1 x2", "1 -2 x1 | 3 1 x2", "1 3 x5 | 2 2 x4"};
        for (int compare = 0; compare < 6; compare++) {
            x.select(2, 0, 0, compare, 2, false);
            rowsAre("3: by number " + compare, x, 2, byNumber[compare]);
            x.drop(2);
            x.select(2, 0, 0, compare, 1, true);
            rowsAre("3: by column " + compare, x, 2, byColumn[compare]);
            x.drop(2);
        }
        x.select(2, 0, 1, 2, 2, false);
        rowsAre("3: by column 1", x, 2, "1 -2 x1 | 3 1 x2");
        x.put(0, 0, 0, 0, 0, 6);
        x.put(0, 3, 1, 0, 0, -2);
        x.put(0, 5, 5, 0, 0, 1);
        rowsAre("3: kept up to date", x, 2, "0 0 x6 | 1 -2 x1");
        x.put(0, 5, 5, 0, 0, -1);
        x.put(0, 5, -5, 0, 0, 1);
        x.put(0, 5, -5, 0, 0, -1);
        rowsAre("3: the last row came and went", x, 2, "0 0 x6 | 1 -2 x1");
        x.put(0, 5, 5, 0, 0, 1);
        due.answer("3: width", 2, () -> x.width(2));
        x.select(3, 0, 0, 2, 99, false);
        due.answer("3: x is a number, not a column", 5, () -> x.rows(3));
        x.put(0, MIN, MAX, 0, 0, 1);
        x.select(4, 0, 0, 2, 1, true);
        rowsAre("3: far values compare", x, 4, MIN + " " + MAX + " x1 | 1 3 x5");
    }

    private static void selectRefuses() {
        BagViews x = small();
        for (int r : NO_RELATIONS) {
            due.refusal("3: no place", INDEX, () -> x.select(r, 0, 0, 0, 0, false));
            due.refusal("3: no source", INDEX, () -> x.select(2, r, 0, 0, 0, false));
        }
        due.refusal("3: source is none", INDEX, () -> x.select(2, 3, 0, 0, 0, false));
        due.refusal("3: of itself", INDEX, () -> x.select(2, 2, 0, 0, 0, false));
        due.refusal("3: source before is there", INDEX, () -> x.select(1, 3, 0, 0, 0, false));
        for (int c : new int[] {-1, 2, MIN, MAX}) {
            due.refusal("3: no column", INDEX, () -> x.select(2, 0, c, 0, 0, false));
            due.refusal("3: no other column", INDEX, () -> x.select(2, 0, 0, 0, c, true));
            due.refusal("3: column before is there", INDEX, () -> x.select(1, 0, c, 6, 0, false));
            due.refusal("3: other column before is there", INDEX, () -> x.select(1, 0, 0, 6, c, true));
        }
        for (int compare : new int[] {-1, 6, MIN, MAX}) {
            due.refusal("3: comparison", ARGUMENT, () -> x.select(2, 0, 0, compare, 0, false));
            due.refusal("3: is there before it", STATE, () -> x.select(1, 0, 0, compare, 0, false));
        }
        due.refusal("3: is there", STATE, () -> x.select(0, 0, 0, 0, 0, false));
        due.answer("3: nothing made", 2, () -> x.count(0));
    }

    private static void columns() {
        BagViews x = small();
        x.columns(2, 0, 0, NONE, NONE, NONE);
        rowsAre("4: times are summed", x, 2, "1 x6 | 2 x4 | 3 x2");
        due.answer("4: width 1", 1, () -> x.width(2));
        x.columns(3, 0, 1, 0, NONE, NONE);
        rowsAre("4: in another order", x, 3, "-2 1 x1 | 1 3 x2 | 2 2 x4 | 3 1 x5");
        x.columns(4, 0, 1, 1, 0, 1);
        rowsAre("4: more than once", x, 4, "-2 -2 1 -2 x1 | 1 1 3 1 x2 | 2 2 2 2 x4 | 3 3 1 3 x5");
        due.answer("4: width 4", 4, () -> x.width(4));
        x.columns(5, 4, 2, 0, 2, NONE);
        due.answer("4: width 3", 3, () -> x.width(5));
        x.put(0, 1, -2, 0, 0, -1);
        x.put(0, 3, 7, 0, 0, 1);
        rowsAre("4: kept up to date", x, 2, "1 x5 | 2 x4 | 3 x3");
        rowsAre("4: of a view", x, 5, "1 3 1 x5 | 2 2 2 x4 | 3 1 3 x2 | 3 7 3 x1");
    }

    private static void columnsRefuses() {
        BagViews x = small();
        for (int r : NO_RELATIONS) {
            due.refusal("4: no place", INDEX, () -> x.columns(r, 0, 0, NONE, NONE, NONE));
            due.refusal("4: no source", INDEX, () -> x.columns(2, r, 0, NONE, NONE, NONE));
        }
        due.refusal("4: source is none", INDEX, () -> x.columns(2, 3, 0, NONE, NONE, NONE));
        for (int c : new int[] {-2, 2, 3, MIN, MAX}) {
            due.refusal("4: no column a", INDEX, () -> x.columns(2, 0, c, 0, 0, 0));
            due.refusal("4: no column b", INDEX, () -> x.columns(2, 0, 0, c, 0, 0));
            due.refusal("4: no column c", INDEX, () -> x.columns(2, 0, 0, 0, c, 0));
            due.refusal("4: no column d", INDEX, () -> x.columns(2, 0, 0, 0, 0, c));
            due.refusal("4: no column behind NONE", INDEX, () -> x.columns(2, 0, 0, NONE, NONE, c));
            due.refusal("4: column before is there", INDEX, () -> x.columns(1, 0, NONE, NONE, NONE, c));
        }
        due.refusal("4: none at all", ARGUMENT, () -> x.columns(2, 0, NONE, NONE, NONE, NONE));
        due.refusal("4: behind first", ARGUMENT, () -> x.columns(2, 0, NONE, 0, 0, 0));
        due.refusal("4: behind second", ARGUMENT, () -> x.columns(2, 0, 0, NONE, 1, NONE));
        due.refusal("4: last behind second", ARGUMENT, () -> x.columns(2, 0, 0, NONE, NONE, 1));
        due.refusal("4: behind third", ARGUMENT, () -> x.columns(2, 0, 0, 1, NONE, 0));
        due.refusal("4: is there before it", STATE, () -> x.columns(1, 0, NONE, NONE, NONE, NONE));
        due.refusal("4: is there", STATE, () -> x.columns(1, 0, 0, NONE, NONE, NONE));
        due.answer("4: nothing made", 2, () -> x.count(0));

        BagViews y = halfTheBound();
        y.table(3, 2);
        y.both(4, 2, 3, false);
        due.done("4: just at the bound", () -> y.columns(5, 4, 1, NONE, NONE, NONE));
        rowsAre("4: the bound itself", y, 5, "0 x1000000000");
        due.refusal("4: over the bound by put", BOUND, () -> y.put(3, 7, 0, 0, 0, 1));
        y.drop(5);
        y.put(3, 7, 0, 0, 0, 1);
        due.refusal("4: over the bound when made", BOUND, () -> y.columns(5, 4, 1, NONE, NONE, NONE));
        due.answer("4: not made", 0, () -> y.width(5));
    }

    /** Relation 2 has rows (1, 0) and (2, 0), each 1000000 times as often as table 6 has them. */
    private static BagViews halfTheBound() {
        BagViews x = new BagViews();
        x.table(6, 2);
        x.put(6, 1, 0, 0, 0, 500);
        x.put(6, 2, 0, 0, 0, 500);
        x.table(7, 1);
        x.put(7, 0, 0, 0, 0, 1000000);
        x.join(0, 6, 7, 1, 0);
        x.columns(2, 0, 0, 1, NONE, NONE);
        return x;
    }

    private static void join() {
        BagViews x = new BagViews();
        x.table(0, 2);
        x.table(1, 2);
        x.join(2, 0, 1, 1, 0);
        due.answer("5: width", 4, () -> x.width(2));
        x.put(0, 1, 5, 0, 0, 2);
        x.put(0, 0, 5, 0, 0, 3);
        x.put(0, 5, 1, 0, 0, 9);
        x.put(1, 5, 7, 0, 0, 1);
        x.put(1, 5, -8, 0, 0, 4);
        x.put(1, 7, 5, 0, 0, 9);
        rowsAre("5: pairs and products", x, 2,
            "0 5 5 -8 x12 | 0 5 5 7 x3 | 1 5 5 -8 x8 | 1 5 5 7 x2");
        x.put(1, 5, -8, 0, 0, -4);
        rowsAre("5: kept up to date", x, 2, "0 5 5 7 x3 | 1 5 5 7 x2");
        x.put(1, 8, 5, 0, 0, 1);
        x.put(0, 1, 8, 0, 0, 1);
        x.put(1, 8, 5, 0, 0, -1);
        x.put(0, 1, 8, 0, 0, -1);
        x.put(0, 9, 8, 0, 0, 1);
        x.put(1, 8, 5, 0, 0, 1);
        rowsAre("5: a last row came", x, 2, "0 5 5 7 x3 | 1 5 5 7 x2 | 9 8 8 5 x1");
        x.put(1, 8, 5, 0, 0, -1);
        rowsAre("5: the right one went", x, 2, "0 5 5 7 x3 | 1 5 5 7 x2");
        x.put(0, 9, 8, 0, 0, -1);
        x.join(3, 0, 1, 0, 0);
        rowsAre("5: by other columns", x, 3, "5 1 5 7 x9");
        x.table(4, 1);
        x.put(4, 5, 0, 0, 0, 2);
        x.join(5, 4, 0, 0, 1);
        rowsAre("5: 1 and 2 columns", x, 5, "5 0 5 x6 | 5 1 5 x4");
        due.answer("5: width 3", 3, () -> x.width(5));
        x.join(6, 5, 4, 2, 0);
        rowsAre("5: 3 and 1 columns", x, 6, "5 0 5 5 x12 | 5 1 5 5 x8");
        x.join(7, 4, 4, 0, 0);
        rowsAre("5: with itself", x, 7, "5 5 x4");
        x.put(4, 5, 0, 0, 0, 1);
        rowsAre("5: with itself, both change", x, 7, "5 5 x9");
        x.put(4, 5, 0, 0, 0, -3);
        rowsAre("5: with itself, none any more", x, 7, "");
        rowsAre("5: none on the left", x, 5, "");
        rowsAre("5: none on the right", x, 6, "");
    }

    private static void joinRefuses() {
        BagViews x = small();
        x.table(3, 3);
        for (int r : NO_RELATIONS) {
            due.refusal("5: no place", INDEX, () -> x.join(r, 0, 0, 0, 0));
            due.refusal("5: no left", INDEX, () -> x.join(2, r, 0, 0, 0));
            due.refusal("5: no right", INDEX, () -> x.join(2, 0, r, 0, 0));
        }
        due.refusal("5: left is none", INDEX, () -> x.join(2, 4, 0, 0, 0));
        due.refusal("5: right is none", INDEX, () -> x.join(2, 0, 4, 0, 0));
        for (int c : new int[] {-1, 2, MIN, MAX}) {
            due.refusal("5: no left column", INDEX, () -> x.join(2, 0, 0, c, 0));
            due.refusal("5: no right column", INDEX, () -> x.join(2, 0, 0, 0, c));
            due.refusal("5: right column is the right one's", INDEX, () -> x.join(2, 3, 0, 2, c));
            due.refusal("5: column before is there", INDEX, () -> x.join(1, 0, 3, c, 0));
        }
        due.refusal("5: is there", STATE, () -> x.join(1, 0, 0, 0, 0));
        due.refusal("5: is there before columns", STATE, () -> x.join(1, 0, 3, 0, 0));
        due.refusal("5: 5 columns", ARGUMENT, () -> x.join(2, 0, 3, 0, 0));
        due.refusal("5: 6 columns", ARGUMENT, () -> x.join(2, 3, 3, 2, 2));

        BagViews y = new BagViews();
        y.table(0, 1);
        y.table(1, 2);
        y.put(0, 1, 0, 0, 0, 1000);
        y.put(1, 1, 0, 0, 0, 1000000);
        due.done("5: just at the bound", () -> y.join(2, 0, 1, 0, 0));
        rowsAre("5: the bound itself", y, 2, "1 1 0 x1000000000");
        due.refusal("5: beyond it by put", BOUND, () -> y.put(0, 1, 0, 0, 0, 1));
        due.answer("5: nothing changed", 1000, () -> y.times(0, 1, 0, 0, 0));
        y.drop(2);
        y.put(0, 1, 0, 0, 0, 1);
        y.put(1, 1, 0, 0, 0, -999);
        due.refusal("5: 1001 times 999001 is one beyond", BOUND, () -> y.join(2, 0, 1, 0, 0));
        y.put(0, 1, 0, 0, 0, 998999);
        y.put(1, 1, 0, 0, 0, 999);
        due.refusal("5: far beyond it when made", BOUND, () -> y.join(2, 0, 1, 0, 0));
        due.answer("5: not made", 0, () -> y.width(2));
        y.table(3, 2);
        y.table(4, 2);
        y.fill(3, 0, 0, 0, 1, 4);
        y.fill(4, 0, 0, 0, 1, 5);
        due.done("5: 20 rows", () -> y.join(5, 3, 4, 0, 0));
        due.answer("5: all 20", 20, () -> y.rows(5));
        due.refusal("5: 24 rows by put", BOUND, () -> y.put(4, 0, 9, 0, 0, 1));
        y.drop(5);
        y.put(4, 0, 9, 0, 0, 1);
        due.refusal("5: 24 rows when made", BOUND, () -> y.join(5, 3, 4, 0, 0));
        due.refusal("5: not made", INDEX, () -> y.rows(5));
        due.answer("5: its rows are not counted", 1 + 1 + 4 + 6, () -> y.count(2));
    }

    private static void union() {
        BagViews x = small();
        x.table(2, 2);
        x.both(3, 0, 2, false);
        rowsAre("6: with an empty one", x, 3, Due.rowsOf(x, 0));
        x.put(2, 2, 2, 0, 0, 3);
        x.put(2, -9, 0, 0, 0, 1);
        rowsAre("6: times are summed", x, 3, "-9 0 x1 | 1 -2 x1 | 1 3 x5 | 2 2 x7 | 3 1 x2");
        x.both(4, 0, 0, false);
        rowsAre("6: with itself", x, 4, "1 -2 x2 | 1 3 x10 | 2 2 x8 | 3 1 x4");
        x.put(0, 3, 1, 0, 0, -2);
        rowsAre("6: kept up to date", x, 3, "-9 0 x1 | 1 -2 x1 | 1 3 x5 | 2 2 x7");
        due.answer("6: width", 2, () -> x.width(3));
    }

    private static void difference() {
        BagViews x = small();
        x.table(2, 2);
        x.both(3, 0, 2, true);
        rowsAre("6: less nothing", x, 3, Due.rowsOf(x, 0));
        x.put(2, 2, 2, 0, 0, 3);
        x.put(2, 1, 3, 0, 0, 5);
        x.put(2, 3, 1, 0, 0, 6);
        x.put(2, -9, 0, 0, 0, 1);
        rowsAre("6: only above 0", x, 3, "1 -2 x1 | 2 2 x1");
        x.both(4, 2, 0, true);
        rowsAre("6: the other way", x, 4, "-9 0 x1 | 3 1 x4");
        x.both(5, 0, 0, true);
        rowsAre("6: less itself", x, 5, "");
        x.put(2, 1, 3, 0, 0, -2);
        rowsAre("6: kept up to date", x, 3, "1 -2 x1 | 1 3 x2 | 2 2 x1");
    }

    private static void bothRefuses() {
        BagViews x = small();
        x.table(3, 1);
        for (boolean less : new boolean[] {false, true}) {
            for (int r : NO_RELATIONS) {
                due.refusal("6: no place", INDEX, () -> x.both(r, 0, 0, less));
                due.refusal("6: no left", INDEX, () -> x.both(2, r, 0, less));
                due.refusal("6: no right", INDEX, () -> x.both(2, 0, r, less));
            }
            due.refusal("6: left is none", INDEX, () -> x.both(2, 4, 0, less));
            due.refusal("6: right is none", INDEX, () -> x.both(2, 0, 4, less));
            due.refusal("6: right before is there", INDEX, () -> x.both(1, 0, 4, less));
            due.refusal("6: is there", STATE, () -> x.both(1, 0, 0, less));
            due.refusal("6: is there before columns", STATE, () -> x.both(1, 0, 3, less));
            due.refusal("6: columns", ARGUMENT, () -> x.both(2, 0, 3, less));
            due.refusal("6: columns the other way", ARGUMENT, () -> x.both(2, 3, 0, less));
        }
        BagViews y = new BagViews();
        y.table(0, 1);
        y.table(1, 1);
        y.fill(0, 0, 1, 0, 0, 20);
        y.fill(1, 10, 1, 0, 0, 10);
        due.done("6: 20 rows", () -> y.both(2, 0, 1, false));
        due.done("6: 10 rows", () -> y.both(3, 0, 1, true));
        due.refusal("6: 21 rows by put", BOUND, () -> y.put(1, 20, 0, 0, 0, 1));
        y.drop(2);
        y.put(1, 20, 0, 0, 0, 1);
        due.refusal("6: 21 rows when made", BOUND, () -> y.both(2, 0, 1, false));
        due.done("6: a difference is not more than the left one", () -> y.both(2, 0, 1, true));

        BagViews z = halfTheBound();
        due.done("6: twice 500000000", () -> z.both(3, 2, 2, false));
        due.answer("6: the bound itself", 1000000000, () -> z.times(3, 2, 0, 0, 0));
        due.refusal("6: twice 501000000", BOUND, () -> z.put(6, 1, 0, 0, 0, 1));
        due.refusal("6: twice 1000000000", BOUND, () -> z.both(4, 3, 3, false));
        due.done("6: less 500000000", () -> z.both(4, 3, 2, true));
        rowsAre("6: what is left", z, 4, "1 0 x500000000 | 2 0 x500000000");
    }

    private static void once() {
        BagViews x = small();
        rowsAre("7: each row once", x, 1, "1 -2 x1 | 1 3 x1 | 2 2 x1 | 3 1 x1");
        x.put(0, 2, 2, 0, 0, -3);
        due.answer("7: still once", 1, () -> x.times(1, 2, 2, 0, 0));
        x.put(0, 2, 2, 0, 0, -1);
        due.answer("7: not any more", 0, () -> x.times(1, 2, 2, 0, 0));
        x.put(0, 9, 9, 0, 0, 7);
        due.answer("7: a new one", 1, () -> x.times(1, 9, 9, 0, 0));
        due.answer("7: width", 2, () -> x.width(1));
        for (int r : NO_RELATIONS) {
            due.refusal("7: no place", INDEX, () -> x.once(r, 0));
            due.refusal("7: no source", INDEX, () -> x.once(2, r));
        }
        due.refusal("7: source is none", INDEX, () -> x.once(2, 3));
        due.refusal("7: source before is there", INDEX, () -> x.once(1, 3));
        due.refusal("7: is there", STATE, () -> x.once(1, 0));
        due.refusal("7: of itself", STATE, () -> x.once(0, 0));
    }

    private static void group() {
        BagViews x = small();
        String[] byFirst = {
            "1 6 x1 | 2 4 x1 | 3 2 x1", "1 13 x1 | 2 8 x1 | 3 2 x1",
            "1 -2 x1 | 2 2 x1 | 3 1 x1", "1 3 x1 | 2 2 x1 | 3 1 x1"};
        String[] ofAll = {"12 x1", "23 x1", "-2 x1", "3 x1"};
        for (int sort = 0; sort < 4; sort++) {
            x.group(2, 0, 0, sort, 1);
            rowsAre("8: by column 0, sort " + sort, x, 2, byFirst[sort]);
            due.answer("8: width 2", 2, () -> x.width(2));
            x.drop(2);
            x.group(2, 0, NONE, sort, 1);
            rowsAre("8: of all, sort " + sort, x, 2, ofAll[sort]);
            due.answer("8: width 1", 1, () -> x.width(2));
            x.drop(2);
        }
        x.put(0, 7, 1, 0, 0, 10);
        x.group(2, 0, 1, 1, 0);
        rowsAre("8: rows that stand apart", x, 2, "-2 1 x1 | 1 76 x1 | 2 8 x1 | 3 5 x1");
        x.group(3, 0, 1, 3, 1);
        rowsAre("8: of its own column", x, 3, "-2 -2 x1 | 1 1 x1 | 2 2 x1 | 3 3 x1");
        x.put(0, 7, 1, 0, 0, -10);
        x.put(0, 1, -2, 0, 0, -1);
        rowsAre("8: kept up to date", x, 2, "1 6 x1 | 2 8 x1 | 3 5 x1");

        BagViews empty = new BagViews();
        empty.table(0, 1);
        empty.group(1, 0, NONE, 0, 0);
        due.answer("8: no rows, no row", 0, () -> empty.rows(1));
        empty.put(0, MAX, 0, 0, 0, 2);
        rowsAre("8: a row, a row", empty, 1, "2 x1");
        empty.group(2, 0, NONE, 1, 0);
        rowsAre("8: a sum wraps", empty, 2, "-2 x1");
        empty.put(0, MIN, 0, 0, 0, 1);
        empty.group(3, 0, NONE, 2, 0);
        rowsAre("8: the least int", empty, 3, MIN + " x1");
        empty.group(4, 0, NONE, 3, 0);
        rowsAre("8: the greatest int", empty, 4, MAX + " x1");
        rowsAre("8: a sum wraps below", empty, 2, (MIN - 2) + " x1");

        BagViews y = halfTheBound();
        y.both(3, 2, 2, false);
        y.put(6, 3, 0, 0, 0, 500);
        y.group(4, 3, NONE, 0, 0);
        rowsAre("8: 3000000000 rows wrap", y, 4, (int) 3000000000L + " x1");
        y.group(5, 3, NONE, 1, 0);
        rowsAre("8: their sum wraps", y, 5, (int) 6000000000L + " x1");
    }

    /** The least and the greatest value stand in the first, a middle and the last row of what is grouped. */
    private static void groupEnds() {
        int[][] values = {{-9, 0, 8, 5}, {5, -9, 8, 0}, {5, 8, -9, 0}, {8, 5, 0, -9}};
        for (int[] column : values) {
            BagViews x = new BagViews();
            x.table(0, 3);
            x.group(1, 0, NONE, 2, 1);
            x.group(2, 0, NONE, 3, 1);
            x.group(3, 0, 2, 2, 1);
            x.group(4, 0, 2, 3, 1);
            for (int i = 0; i < column.length; i++) {
                x.put(0, i, column[i], 6, 0, i + 1);
                x.put(0, i, -column[i], 7, 0, 1);
            }
            rowsAre("8: least of all", x, 1, "-9 x1");
            rowsAre("8: greatest of all", x, 2, "9 x1");
            rowsAre("8: least by column 2", x, 3, "6 -9 x1 | 7 -8 x1");
            rowsAre("8: greatest by column 2", x, 4, "6 8 x1 | 7 9 x1");
        }
    }

    private static void groupRefuses() {
        BagViews x = small();
        for (int r : NO_RELATIONS) {
            due.refusal("8: no place", INDEX, () -> x.group(r, 0, 0, 0, 0));
            due.refusal("8: no source", INDEX, () -> x.group(2, r, 0, 0, 0));
        }
        due.refusal("8: source is none", INDEX, () -> x.group(2, 3, 0, 0, 0));
        for (int c : new int[] {-2, 2, MIN, MAX}) {
            due.refusal("8: no by", INDEX, () -> x.group(2, 0, c, 0, 0));
            due.refusal("8: by before is there", INDEX, () -> x.group(1, 0, c, 4, 0));
        }
        for (int sort = 0; sort < 4; sort++) {
            int asked = sort;
            for (int c : new int[] {NONE, -2, 2, MIN, MAX}) {
                due.refusal("8: no column", INDEX, () -> x.group(2, 0, 0, asked, c));
                due.refusal("8: no column, of all", INDEX, () -> x.group(2, 0, NONE, asked, c));
            }
        }
        for (int sort : new int[] {-1, 4, MIN, MAX}) {
            due.refusal("8: sort", ARGUMENT, () -> x.group(2, 0, 0, sort, 0));
            due.refusal("8: is there before it", STATE, () -> x.group(1, 0, 0, sort, 0));
            due.refusal("8: column before it", INDEX, () -> x.group(2, 0, 0, sort, 2));
        }
        due.refusal("8: is there", STATE, () -> x.group(1, 0, NONE, 0, 0));
    }

    private static void drop() {
        BagViews x = small();
        due.refusal("9: a view is of it", STATE, () -> x.drop(0));
        due.answer("9: still there", 4, () -> x.rows(0));
        due.done("9: the view", () -> x.drop(1));
        due.answer("9: is none", 0, () -> x.width(1));
        due.refusal("9: none any more", INDEX, () -> x.drop(1));
        x.table(2, 2);
        x.both(3, 2, 0, false);
        due.refusal("9: on the right", STATE, () -> x.drop(0));
        due.refusal("9: on the left", STATE, () -> x.drop(2));
        x.once(4, 3);
        due.refusal("9: a view of a view", STATE, () -> x.drop(3));
        x.drop(4);
        x.drop(3);
        due.done("9: now it may go", () -> x.drop(0));
        due.refusal("9: its rows are gone", INDEX, () -> x.rows(0));
        due.answer("9: not counted", 1, () -> x.count(0));
        due.answer("9: no rows counted", 0, () -> x.count(2));
        for (int r : NO_RELATIONS) {
            due.refusal("9: no such relation", INDEX, () -> x.drop(r));
        }
    }

    private static void put() {
        BagViews x = new BagViews();
        x.table(0, 1);
        due.answer("10: new", 3, () -> x.put(0, 5, 1, 2, 3, 3));
        due.answer("10: other columns do not matter", 7, () -> x.put(0, 5, 9, 9, 9, 4));
        due.answer("10: less", 2, () -> x.put(0, 5, 0, 0, 0, -5));
        due.answer("10: not any more", 0, () -> x.put(0, 5, 0, 0, 0, -2));
        due.answer("10: no row left", 0, () -> x.rows(0));
        due.answer("10: most", 1000000, () -> x.put(0, MIN, 0, 0, 0, 1000000));
        due.answer("10: most again", 2000000, () -> x.put(0, MIN, 0, 0, 0, 1000000));
        due.answer("10: most less", 1000000, () -> x.put(0, MIN, 0, 0, 0, -1000000));
        x.put(0, MAX, 0, 0, 0, 1);
        x.put(0, 0, 0, 0, 0, 1);
        x.put(0, -1, 0, 0, 0, 1);
        rowsAre("10: in order", x, 0, MIN + " x1000000 | -1 x1 | 0 x1 | " + MAX + " x1");
        x.put(0, -1, 0, 0, 0, -1);
        rowsAre("10: one from the middle", x, 0, MIN + " x1000000 | 0 x1 | " + MAX + " x1");
        for (int columns = 2; columns <= 4; columns++) {
            x.table(columns, columns);
            x.put(columns, 1, 2, 3, 4, 1);
            x.put(columns, 1, 2, 3, 5, 1);
            x.put(columns, 1, 2, -3, 4, 1);
            x.put(columns, 1, -2, 3, 4, 1);
        }
        rowsAre("10: 2 columns", x, 2, "1 -2 x1 | 1 2 x3");
        rowsAre("10: 3 columns", x, 3, "1 -2 3 x1 | 1 2 -3 x1 | 1 2 3 x2");
        rowsAre("10: 4 columns", x, 4, "1 -2 3 4 x1 | 1 2 -3 4 x1 | 1 2 3 4 x1 | 1 2 3 5 x1");
    }

    private static void putRefuses() {
        BagViews x = small();
        for (int r : NO_RELATIONS) {
            due.refusal("10: no such relation", INDEX, () -> x.put(r, 0, 0, 0, 0, 0));
        }
        due.refusal("10: none", INDEX, () -> x.put(2, 0, 0, 0, 0, 0));
        due.refusal("10: a view", STATE, () -> x.put(1, 1, 3, 0, 0, 1));
        due.refusal("10: a view before n", STATE, () -> x.put(1, 1, 3, 0, 0, 0));
        for (int n : new int[] {0, 1000001, -1000001, MIN, MAX}) {
            due.refusal("10: n", ARGUMENT, () -> x.put(0, 1, 3, 0, 0, n));
        }
        due.refusal("10: not so often", ARGUMENT, () -> x.put(0, 1, 3, 0, 0, -6));
        due.refusal("10: not at all", ARGUMENT, () -> x.put(0, 8, 8, 0, 0, -1));
        rowsAre("10: nothing changed", x, 0, "1 -2 x1 | 1 3 x5 | 2 2 x4 | 3 1 x2");
        x.fill(0, 10, 1, 0, 0, 16);
        due.answer("10: 20 rows", 20, () -> x.rows(0));
        due.refusal("10: 21 rows", BOUND, () -> x.put(0, 9, 0, 0, 0, 1));
        due.refusal("10: n before 21 rows", ARGUMENT, () -> x.put(0, 9, 0, 0, 0, 1000001));
        due.refusal("10: not so often, with 20", ARGUMENT, () -> x.put(0, 9, 0, 0, 0, -1));
        due.answer("10: the last row goes", 0, () -> x.put(0, 25, 0, 0, 0, -1));
        due.answer("10: another comes", 1, () -> x.put(0, 26, 0, 0, 0, 1));
        due.answer("10: one of the 20 again", 2, () -> x.put(0, 26, 0, 0, 0, 1));
    }

    private static void putIsRefusedAnywhere() {
        BagViews x = new BagViews();
        x.table(7, 1);
        x.table(6, 1);
        x.both(5, 7, 6, true);
        x.join(4, 5, 5, 0, 0);
        x.columns(3, 4, 0, NONE, NONE, NONE);
        x.put(6, 1, 0, 0, 0, 1000000);
        x.put(7, 1, 0, 0, 0, 1000000);
        x.put(7, 2, 0, 0, 0, 10);
        rowsAre("10: before", x, 3, "2 x100");
        due.refusal("10: less on the right is more further on", BOUND, () -> x.put(6, 1, 0, 0, 0, -1000000));
        due.answer("10: the table keeps it", 1000000, () -> x.times(6, 1, 0, 0, 0));
        rowsAre("10: the view between", x, 5, "2 x10");
        rowsAre("10: the last view", x, 3, "2 x100");
        due.answer("10: changed is of the put before", 1, () -> x.changed(7));
        due.answer("10: the refused one changed nothing", 0, () -> x.changed(6));
        due.answer("10: a lesser one goes", 999990, () -> x.put(6, 1, 0, 0, 0, -10));
        rowsAre("10: and reaches the last view", x, 3, "1 x100 | 2 x100");
    }

    private static void fill() {
        BagViews x = new BagViews();
        x.table(0, 2);
        due.answer("11: rows", 3, () -> x.fill(0, 5, -2, 1, 10, 3));
        rowsAre("11: both columns step", x, 0, "1 21 x1 | 3 11 x1 | 5 1 x1");
        due.answer("11: once more", 3, () -> x.fill(0, 5, -2, 1, 10, 2));
        rowsAre("11: where they are there", x, 0, "1 21 x1 | 3 11 x2 | 5 1 x2");
        due.answer("11: without steps", 4, () -> x.fill(0, 7, 0, 7, 0, 40));
        due.answer("11: all of them", 40, () -> x.times(0, 7, 7, 0, 0));
        x.table(1, 4);
        due.answer("11: 4 columns", 2, () -> x.fill(1, MAX, 1, MIN, -1, 2));
        rowsAre("11: wraps", x, 1, MIN + " " + MAX + " 0 0 x1 | " + MAX + " " + MIN + " 0 0 x1");
        x.table(2, 1);
        due.answer("11: 1 column", 1, () -> x.fill(2, 3, 0, 0, 1, 40));
        rowsAre("11: b does not matter there", x, 2, "3 x40");
        x.fill(2, 0, MIN, 0, 0, 3);
        rowsAre("11: steps wrap", x, 2, MIN + " x1 | 0 x2 | 3 x40");
        x.columns(3, 2, 0, 0, NONE, NONE);
        x.fill(2, 3, 1, 0, 0, 1);
        rowsAre("11: views follow", x, 3, MIN + " " + MIN + " x1 | 0 0 x2 | 3 3 x41");
    }

    private static void fillRefuses() {
        BagViews x = small();
        for (int r : NO_RELATIONS) {
            due.refusal("11: no such relation", INDEX, () -> x.fill(r, 0, 0, 0, 0, 0));
        }
        due.refusal("11: none", INDEX, () -> x.fill(2, 0, 0, 0, 0, 0));
        due.refusal("11: a view", STATE, () -> x.fill(1, 0, 0, 0, 0, 1));
        due.refusal("11: a view before n", STATE, () -> x.fill(1, 0, 0, 0, 0, 0));
        for (int n : new int[] {0, -1, 41, MIN, MAX}) {
            due.refusal("11: n", ARGUMENT, () -> x.fill(0, 0, 0, 0, 0, n));
        }
        due.refusal("11: 21 rows", BOUND, () -> x.fill(0, 10, 1, 0, 0, 17));
        rowsAre("11: nothing changed", x, 0, "1 -2 x1 | 1 3 x5 | 2 2 x4 | 3 1 x2");
        due.answer("11: 20 rows", 20, () -> x.fill(0, 10, 1, 0, 0, 16));
        due.answer("11: more of the 20", 20, () -> x.fill(0, 10, 1, 0, 0, 16));
        BagViews y = new BagViews();
        y.table(0, 2);
        y.columns(1, 0, 0, NONE, NONE, NONE);
        y.join(2, 0, 0, 0, 0);
        due.answer("11: 4 by 4", 4, () -> y.fill(0, 1, 0, 0, 1, 4));
        due.refusal("11: a view would have 25", BOUND, () -> y.fill(0, 1, 0, 0, 1, 5));
        due.answer("11: the table is as before", 4, () -> y.rows(0));
        due.answer("11: its times, too", 1, () -> y.times(0, 1, 0, 0, 0));
        due.answer("11: and the first view", 4, () -> y.times(1, 1, 0, 0, 0));
    }

    private static void width() {
        BagViews x = small();
        due.answer("12: table", 2, () -> x.width(0));
        due.answer("12: view", 2, () -> x.width(1));
        due.answer("12: none", 0, () -> x.width(7));
        for (int r : NO_RELATIONS) {
            due.refusal("12: no such relation", INDEX, () -> x.width(r));
        }
        x.drop(1);
        due.answer("12: dropped", 0, () -> x.width(1));
    }

    private static void rows() {
        BagViews x = small();
        due.answer("13: table", 4, () -> x.rows(0));
        due.answer("13: view", 4, () -> x.rows(1));
        x.put(0, 2, 2, 0, 0, 100);
        due.answer("13: different ones", 4, () -> x.rows(0));
        due.refusal("13: none", INDEX, () -> x.rows(2));
        for (int r : NO_RELATIONS) {
            due.refusal("13: no such relation", INDEX, () -> x.rows(r));
        }
    }

    private static void size() {
        BagViews x = small();
        due.answer("14: table", 12, () -> x.size(0));
        due.answer("14: view", 4, () -> x.size(1));
        x.put(0, 3, 1, 0, 0, -2);
        due.answer("14: the last row went", 10, () -> x.size(0));
        x.table(2, 1);
        due.answer("14: empty", 0, () -> x.size(2));
        due.refusal("14: none", INDEX, () -> x.size(3));
        for (int r : NO_RELATIONS) {
            due.refusal("14: no such relation", INDEX, () -> x.size(r));
        }
        BagViews y = halfTheBound();
        y.both(3, 2, 2, false);
        y.put(6, 3, 0, 0, 0, 500);
        due.answer("14: beyond an int", 3000000000L, () -> y.size(3));
    }

    private static void times() {
        BagViews x = small();
        due.answer("15: a row", 5, () -> x.times(0, 1, 3, 0, 0));
        due.answer("15: other columns do not matter", 5, () -> x.times(0, 1, 3, MIN, MAX));
        due.answer("15: not there", 0, () -> x.times(0, 1, 4, 0, 0));
        due.answer("15: not there, before all", 0, () -> x.times(0, MIN, 0, 0, 0));
        due.answer("15: not there, behind all", 0, () -> x.times(0, MAX, 0, 0, 0));
        due.answer("15: of a view", 1, () -> x.times(1, 2, 2, 8, 8));
        due.refusal("15: none", INDEX, () -> x.times(2, 0, 0, 0, 0));
        for (int r : NO_RELATIONS) {
            due.refusal("15: no such relation", INDEX, () -> x.times(r, 0, 0, 0, 0));
        }
        for (int columns = 1; columns <= 4; columns++) {
            int wide = columns;
            x.table(wide + 2, wide);
            x.put(wide + 2, 1, 2, 3, 4, 6);
            due.answer("15: a", 0, () -> x.times(wide + 2, 9, 2, 3, 4));
            due.answer("15: b", wide < 2 ? 6 : 0, () -> x.times(wide + 2, 1, 9, 3, 4));
            due.answer("15: c", wide < 3 ? 6 : 0, () -> x.times(wide + 2, 1, 2, 9, 4));
            due.answer("15: d", wide < 4 ? 6 : 0, () -> x.times(wide + 2, 1, 2, 3, 9));
        }
    }

    private static void cell() {
        BagViews x = small();
        int[][] want = {{1, -2, 1}, {1, 3, 5}, {2, 2, 4}, {3, 1, 2}};
        for (int k = 0; k < 4; k++) {
            for (int column = 0; column < 3; column++) {
                int row = k;
                int at = column;
                due.answer("16: cell", want[row][at], () -> x.cell(0, row, at));
                due.answer("16: cell of a view", at == 2 ? 1 : want[row][at], () -> x.cell(1, row, at));
            }
        }
        for (int column : new int[] {-1, 3, 4, MIN, MAX}) {
            due.refusal("16: no such column", INDEX, () -> x.cell(0, 0, column));
        }
        for (int k : new int[] {-1, 4, 20, MIN, MAX}) {
            due.refusal("16: no such row", INDEX, () -> x.cell(0, k, 0));
            due.refusal("16: no such row's times", INDEX, () -> x.cell(0, k, 2));
        }
        for (int r : NO_RELATIONS) {
            due.refusal("16: no such relation", INDEX, () -> x.cell(r, 0, 0));
        }
        due.refusal("16: none", INDEX, () -> x.cell(2, 0, 0));
        x.table(3, 4);
        due.refusal("16: no rows", INDEX, () -> x.cell(3, 0, 0));
        x.put(3, 1, 2, 3, 4, 9);
        due.answer("16: times of 4 columns", 9, () -> x.cell(3, 0, 4));
        due.refusal("16: behind its times", INDEX, () -> x.cell(3, 0, 5));
        x.put(0, 3, 1, 0, 0, -2);
        due.refusal("16: a row that went", INDEX, () -> x.cell(0, 3, 0));
    }

    private static void changed() {
        BagViews x = small();
        due.answer("17: one row", 1, () -> x.changed(0));
        due.answer("17: made since", 0, () -> x.changed(1));
        x.put(0, 2, 2, 0, 0, 1);
        due.answer("17: more of a row", 1, () -> x.changed(0));
        due.answer("17: nothing for the view", 0, () -> x.changed(1));
        x.put(0, 2, 2, 0, 0, -5);
        due.answer("17: a row went", 1, () -> x.changed(1));
        x.table(2, 1);
        x.columns(3, 0, 0, NONE, NONE, NONE);
        x.fill(2, 0, 1, 0, 0, 7);
        due.answer("17: several rows", 7, () -> x.changed(2));
        due.answer("17: the latest one was elsewhere", 0, () -> x.changed(0));
        due.answer("17: for the view, too", 0, () -> x.changed(1));
        x.fill(0, 1, 1, 3, 0, 2);
        due.answer("17: an old one and a new one", 2, () -> x.changed(0));
        due.answer("17: only the new one", 1, () -> x.changed(1));
        due.answer("17: columns", 2, () -> x.changed(3));
        due.refusal("17: refused", ARGUMENT, () -> x.put(0, 1, 3, 0, 0, 0));
        due.refusal("17: refused", STATE, () -> x.put(3, 1, 3, 0, 0, 1));
        due.refusal("17: refused", BOUND, () -> x.fill(0, 0, 1, 0, 0, 40));
        due.answer("17: the latest that was not refused", 2, () -> x.changed(0));
        x.group(4, 0, 0, 0, 0);
        x.put(0, 1, 3, 0, 0, 1);
        due.answer("17: a group has one row less and one more", 2, () -> x.changed(4));
        x.drop(4);
        x.group(4, 0, 0, 0, 0);
        due.answer("17: made since, again", 0, () -> x.changed(4));
        due.answer("17: others are as before", 1, () -> x.changed(0));
        x.drop(2);
        x.table(2, 1);
        due.answer("17: a table made since", 0, () -> x.changed(2));
        due.refusal("17: none", INDEX, () -> x.changed(5));
        for (int r : NO_RELATIONS) {
            due.refusal("17: no such relation", INDEX, () -> x.changed(r));
        }
    }

    private static void count() {
        BagViews x = small();
        x.table(5, 1);
        due.answer("18: relations", 3, () -> x.count(0));
        due.answer("18: tables", 2, () -> x.count(1));
        due.answer("18: rows", 8, () -> x.count(2));
        x.put(5, 1, 0, 0, 0, 1000);
        due.answer("18: each once", 9, () -> x.count(2));
        for (int what : new int[] {-1, 3, MIN, MAX}) {
            due.refusal("18: none of these", ARGUMENT, () -> x.count(what));
        }
        x.drop(1);
        due.answer("18: one relation less", 2, () -> x.count(0));
        due.answer("18: as many tables", 2, () -> x.count(1));
        due.answer("18: fewer rows", 5, () -> x.count(2));
    }

    /** Views at places before what they are of, eight deep. */
    private static void viewsOverViews() {
        BagViews x = new BagViews();
        x.table(7, 1);
        for (int v = 6; v >= 0; v--) {
            x.both(v, v + 1, 7, false);
        }
        due.answer("views: one row", 1, () -> x.put(7, 4, 0, 0, 0, 1));
        for (int v = 0; v < 8; v++) {
            int at = v;
            due.answer("views: summed up to the table", 8 - at, () -> x.times(at, 4, 0, 0, 0));
            due.answer("views: changed", 1, () -> x.changed(at));
        }
        x.put(7, 4, 0, 0, 0, -1);
        due.answer("views: no rows any more", 0, () -> x.count(2));
    }

    private PromisesTest() {
    }
}
