/**
 * The BOUNDS: no relation has more than 20 different rows, no row more times than 1000000000, and what would
 * lead to that, anywhere, is refused and changes nothing. A table alone cannot come to 1000000000 times of a row
 * in 512 calls of at most 1000000, so that bound is looked at in views.
 */
public final class BoundsTest {
    private static final Class<IndexOutOfBoundsException> INDEX = IndexOutOfBoundsException.class;
    private static final Class<IllegalStateException> STATE = IllegalStateException.class;
    private static final Class<IllegalArgumentException> ARGUMENT = IllegalArgumentException.class;
    private static final Class<UnsupportedOperationException> BOUND = UnsupportedOperationException.class;
    private static final int NONE = BagViews.NONE;
    private static final int MOST = 1000000000;

    private static final Due due = new Due();
    private static final Edge fresh = new Edge(due, BagViews::new);

    public static void main(String[] args) {
        tableRowsByPut();
        tableRowsByFill();
        viewsOfFullTables();
        unionRows();
        joinRows();
        joinWithItself();
        columnsTimes();
        joinTimes();
        productsThatWouldWrap();
        unionTimes();
        timesAtTheBoundGoOn();
        lessIsMoreElsewhere();
        deepViews();
        allAtOnce();
        oneTableByTwoWays();
        oneSideDeeper();
        refusedViewLeavesItsPlace();
        othersAreNamedBefore();
        changedIsOfTheLatestAccepted();
        due.end();
    }

    /** Table 0 of 2 columns with rows (0, 0), (2, 0), .. , and each row once in view 1. */
    private static Edge rowsInTable(int rows) {
        return fresh.after(x -> {
            x.table(0, 2);
            x.once(1, 0);
            if (rows > 0) {
                x.fill(0, 0, 2, 0, 0, rows);
            }
        });
    }

    private static void tableRowsByPut() {
        Edge nearly = rowsInTable(19);
        for (int a : new int[] {-1, 7, 40}) {
            nearly.after(x -> x.put(0, a, 0, 0, 0, 1)).asks("10: the 20th row", 20, x -> x.rows(0));
            nearly.after(x -> x.put(0, a, 0, 0, 0, 1)).asks("10: in its view", 20, x -> x.rows(1));
        }
        Edge full = rowsInTable(20);
        for (int a : new int[] {-1, 7, 40}) {
            full.refuses("10: the 21st row", BOUND, x -> x.put(0, a, 0, 0, 0, 1));
            full.refuses("10: the 21st row, often", BOUND, x -> x.put(0, a, 0, 0, 0, 1000000));
        }
        for (int a : new int[] {0, 20, 38}) {
            full.answers("10: one of the 20 rows again", 2, x -> x.put(0, a, 0, 0, 0, 1));
            Edge gone = full.after(x -> x.put(0, a, 0, 0, 0, -1));
            gone.asks("10: one of the 20 rows goes", 19, x -> x.rows(0));
            gone.answers("10: another one comes", 1, x -> x.put(0, 7, 0, 0, 0, 1));
            gone.after(x -> x.put(0, 7, 0, 0, 0, 1)).refuses("10: full again", BOUND, x -> x.put(0, a, 0, 0, 0, 1));
        }
        full.asks("16: the 20th row", 38, x -> x.cell(0, 19, 0));
        full.refuses("16: no 21st row", INDEX, x -> x.cell(0, 20, 0));
    }

    private static void tableRowsByFill() {
        Edge empty = rowsInTable(0);
        empty.answers("11: 20 rows", 20, x -> x.fill(0, 0, 1, 0, 0, 20));
        empty.answers("11: 20 rows by the second column", 20, x -> x.fill(0, 0, 0, 0, 1, 20));
        empty.refuses("11: 21 rows", BOUND, x -> x.fill(0, 0, 1, 0, 0, 21));
        empty.refuses("11: 21 rows by the second column", BOUND, x -> x.fill(0, 0, 0, 0, 1, 21));
        empty.refuses("11: 40 rows", BOUND, x -> x.fill(0, 0, 1, 0, 0, 40));
        rowsInTable(4).answers("11: 40 of them, 16 different ones", 20, x -> x.fill(0, 1, 1 << 28, 0, 0, 40));
        rowsInTable(5).refuses("11: 40 of them, one too many", BOUND, x -> x.fill(0, 1, 1 << 28, 0, 0, 40));
        Edge full = rowsInTable(20);
        full.answers("11: the same 20 rows", 20, x -> x.fill(0, 0, 2, 0, 0, 20));
        full.refuses("11: 20 rows and one more", BOUND, x -> x.fill(0, 0, 2, 0, 0, 21));
        full.refuses("11: one more", BOUND, x -> x.fill(0, 1, 0, 0, 0, 1));
        full.answers("11: one of them, 40 times", 20, x -> x.fill(0, 4, 0, 0, 0, 40));
        rowsInTable(19).answers("11: 19 and 1", 20, x -> x.fill(0, 1, 0, 0, 0, 1));
        rowsInTable(19).refuses("11: 19 and 2", BOUND, x -> x.fill(0, 1, 2, 0, 0, 2));
        rowsInTable(10).answers("11: 10 old ones and 10 new ones", 20, x -> x.fill(0, 0, 2, 0, 0, 20));
        rowsInTable(10).refuses("11: 10 old ones and 11 new ones", BOUND, x -> x.fill(0, 0, 2, 0, 0, 21));
    }

    /** These never have more rows than what they are of. */
    private static void viewsOfFullTables() {
        Edge full = rowsInTable(20);
        full.after(x -> x.select(2, 0, 0, 3, 0, false)).asks("3: 20 rows", 20, x -> x.rows(2));
        full.after(x -> x.columns(2, 0, 1, 0, 0, 1)).asks("4: 20 rows", 20, x -> x.rows(2));
        full.after(x -> x.columns(2, 0, 1, NONE, NONE, NONE)).asks("4: 20 rows as one", 20, x -> x.size(2));
        full.after(x -> x.both(2, 0, 0, false)).asks("6: 20 rows with themselves", 20, x -> x.rows(2));
        full.after(x -> x.both(2, 0, 0, true)).asks("6: 20 rows less themselves", 0, x -> x.rows(2));
        full.after(x -> x.join(2, 0, 0, 0, 0)).asks("5: 20 rows, each with itself", 20, x -> x.rows(2));
        full.after(x -> x.once(2, 0)).asks("7: 20 rows", 20, x -> x.rows(2));
        full.after(x -> x.group(2, 0, 0, 0, 1)).asks("8: 20 values", 20, x -> x.rows(2));
        full.after(x -> x.group(2, 0, NONE, 0, 1)).has("8: 20 rows together", 2, "20 x1");
    }

    /** Tables 0 and 1 of 1 column: 0 has 0 .. left - 1, 1 has 100 .. 100 + right - 1. */
    private static Edge twoTables(int left, int right) {
        return fresh.after(x -> {
            x.table(0, 1);
            x.table(1, 1);
            x.fill(0, 0, 1, 0, 0, left);
            x.fill(1, 100, 1, 0, 0, right);
        });
    }

    private static void unionRows() {
        twoTables(12, 8).after(x -> x.both(2, 0, 1, false)).asks("6: 20 rows", 20, x -> x.rows(2));
        twoTables(12, 9).refuses("6: 21 rows when made", BOUND, x -> x.both(2, 0, 1, false));
        twoTables(20, 20).refuses("6: 40 rows when made", BOUND, x -> x.both(2, 0, 1, false));
        twoTables(20, 20).after(x -> x.both(2, 0, 1, true)).asks("6: 20 rows less others", 20, x -> x.rows(2));
        Edge union = twoTables(12, 7).after(x -> x.both(2, 0, 1, false));
        union.after(x -> x.put(0, -1, 0, 0, 0, 1)).asks("6: the 20th row by the left", 20, x -> x.rows(2));
        union.after(x -> x.put(1, -1, 0, 0, 0, 1)).asks("6: the 20th row by the right", 20, x -> x.rows(2));
        union.after(x -> x.fill(1, 0, 1, 0, 0, 12)).asks("6: rows that both have", 19, x -> x.rows(2));
        Edge full = twoTables(12, 8).after(x -> x.both(2, 0, 1, false));
        full.refuses("6: the 21st row by the left", BOUND, x -> x.put(0, -1, 0, 0, 0, 1));
        full.refuses("6: the 21st row by the right", BOUND, x -> x.put(1, -1, 0, 0, 0, 1));
        full.answers("6: a fill of rows that the other has", 15, x -> x.fill(1, 5, 1, 0, 0, 7));
        full.refuses("6: the 21st row by fill", BOUND, x -> x.fill(1, 5, 1, 0, 0, 8));
        full.answers("6: a row that the other has", 1, x -> x.put(1, 11, 0, 0, 0, 1));
        full.after(x -> x.drop(2)).answers("9: no bound of a view that is gone", 1, x -> x.put(1, -1, 0, 0, 0, 1));
    }

    /** Tables 0 and 1 of 2 columns have pairs by their first: 4 by 4 of 0, 4 by 1 of 1, and 2 on the left alone. */
    private static Edge twentyPairs() {
        return fresh.after(x -> {
            x.table(0, 2);
            x.table(1, 2);
            x.fill(0, 0, 0, 0, 1, 4);
            x.fill(1, 0, 0, 0, 1, 4);
            x.fill(0, 1, 0, 0, 1, 4);
            x.put(1, 1, 5, 0, 0, 1);
            x.put(0, 2, 2, 0, 0, 1);
        });
    }

    private static void joinRows() {
        twentyPairs().after(x -> x.join(2, 0, 1, 0, 0)).asks("5: 20 rows", 20, x -> x.rows(2));
        twentyPairs().after(x -> x.put(1, 2, 2, 0, 0, 1)).refuses("5: 21 rows when made", BOUND,
            x -> x.join(2, 0, 1, 0, 0));
        twentyPairs().after(x -> x.fill(0, 0, 0, 4, 1, 9)).refuses("5: far more when made", BOUND,
            x -> x.join(2, 0, 1, 0, 0));
        Edge full = twentyPairs().after(x -> x.join(2, 0, 1, 0, 0));
        full.refuses("5: the 21st row by the right", BOUND, x -> x.put(1, 2, 2, 0, 0, 1));
        full.refuses("5: the 21st row by the left", BOUND, x -> x.put(0, 1, 9, 0, 0, 1));
        full.refuses("5: the 21st row by fill", BOUND, x -> x.fill(1, 3, -1, 0, 0, 2));
        full.answers("5: a row without another", 1, x -> x.put(1, 3, 3, 0, 0, 1));
        full.answers("5: more of a row", 2, x -> x.put(0, 1, 3, 0, 0, 1));
        Edge room = full.after(x -> x.put(0, 1, 3, 0, 0, -1));
        room.after(x -> x.put(1, 2, 2, 0, 0, 1)).asks("5: one went, one came", 20, x -> x.rows(2));
    }

    private static void joinWithItself() {
        Edge four = fresh.after(x -> {
            x.table(0, 2);
            x.join(1, 0, 0, 0, 0);
            x.fill(0, 7, 0, 0, 1, 4);
        });
        four.asks("5: 4 by 4", 16, x -> x.rows(1));
        four.refuses("5: 5 by 5", BOUND, x -> x.put(0, 7, 4, 0, 0, 1));
        Edge full = four.after(x -> x.fill(0, 1, 1, 0, 0, 4));
        full.asks("5: 16 and 4 by themselves", 20, x -> x.rows(1));
        full.refuses("5: 16 and 5 by themselves", BOUND, x -> x.put(0, 8, 0, 0, 0, 1));
        Edge times = fresh.after(x -> {
            x.table(0, 1);
            x.join(1, 0, 0, 0, 0);
            x.put(0, 3, 0, 0, 0, 31622);
        });
        times.has("5: 31622 by 31622", 1, "3 3 x999950884");
        times.refuses("5: 31623 by 31623", BOUND, x -> x.put(0, 3, 0, 0, 0, 1));
        times.refuses("5: 1031622 by 1031622", BOUND, x -> x.put(0, 3, 0, 0, 0, 1000000));
    }

    /** Relation 3 has rows (0), (1), .. of the table 0, which counts a million times. */
    private static Edge millions(int... often) {
        return fresh.after(x -> {
            x.table(0, 2);
            x.table(1, 1);
            for (int i = 0; i < often.length; i++) {
                x.put(0, i, 0, 0, 0, often[i]);
            }
            x.put(1, 0, 0, 0, 0, 1000000);
            x.join(2, 0, 1, 1, 0);
            x.columns(3, 2, 0, NONE, NONE, NONE);
        });
    }

    /** Beside millions: table 4 has row (9), and 5 is the union of 3 and 4. */
    private static Edge millionsAnd(int few, int... often) {
        return millions(often).after(x -> {
            x.table(4, 1);
            x.put(4, 9, 0, 0, 0, few);
            x.both(5, 3, 4, false);
        });
    }

    private static void columnsTimes() {
        Edge made = millions(400, 600);
        made.gives("4: 1000000000 times when made", x -> x.columns(5, 2, 1, NONE, NONE, NONE), 5, "0 x" + MOST);
        millions(400, 601).refuses("4: 1001000000 times when made", BOUND,
            x -> x.columns(5, 2, 1, NONE, NONE, NONE));
        millions(1000, 1000, 1000, 1000, 1000).refuses("4: 5000000000 times, small as an int", BOUND,
            x -> x.columns(5, 2, 1, NONE, NONE, NONE));

        Edge nearly = fresh.after(x -> {
            x.table(0, 2);
            x.table(1, 1);
            x.put(0, 1, 0, 0, 0, 999);
            x.put(1, 0, 0, 0, 0, 1000000);
            x.join(2, 0, 1, 1, 0);
            x.table(3, 3);
            x.put(3, 8, 0, 0, 0, 999999);
            x.both(4, 2, 3, false);
            x.columns(5, 4, 1, NONE, NONE, NONE);
        });
        nearly.has("4: one less than the bound", 5, "0 x999999999");
        nearly.gives("4: the bound itself by put", x -> x.put(3, 7, 0, 0, 0, 1), 5, "0 x" + MOST);
        nearly.gives("4: the bound itself by fill", x -> x.fill(3, 7, 0, 0, 0, 1), 5, "0 x" + MOST);
        nearly.refuses("4: one beyond it by put", BOUND, x -> x.put(3, 7, 0, 0, 0, 2));
        nearly.refuses("4: one beyond it by fill", BOUND, x -> x.fill(3, 7, 0, 0, 0, 2));
        nearly.refuses("4: one beyond it by fill of two rows", BOUND, x -> x.fill(3, 6, 1, 0, 0, 2));
        Edge at = nearly.after(x -> x.put(3, 7, 0, 0, 0, 1));
        at.refuses("4: one beyond it by a row that is there", BOUND, x -> x.put(3, 8, 0, 0, 0, 1));
        at.answers("4: one less", 999998, x -> x.put(3, 8, 0, 0, 0, -1));
        at.answers("4: another value", 1, x -> x.put(3, 8, 1, 0, 0, 1));
        Edge beyond = at.after(x -> {
            x.drop(5);
            x.put(3, 8, 0, 0, 0, 1);
        });
        beyond.refuses("4: one beyond it when made", BOUND, x -> x.columns(5, 4, 1, NONE, NONE, NONE));
        beyond.after(x -> x.put(3, 7, 0, 0, 0, -1)).gives("4: the bound itself when made",
            x -> x.columns(5, 4, 1, NONE, NONE, NONE), 5, "0 x" + MOST);
    }

    private static Edge twoRows(int left, int right) {
        return fresh.after(x -> {
            x.table(0, 1);
            x.table(1, 1);
            x.put(0, 4, 0, 0, 0, left);
            x.put(1, 4, 0, 0, 0, right);
        });
    }

    private static void joinTimes() {
        twoRows(1000, 1000000).gives("5: 1000000000 times when made", x -> x.join(2, 0, 1, 0, 0), 2, "4 4 x" + MOST);
        twoRows(1001, 999001).refuses("5: 1000000001 times when made", BOUND, x -> x.join(2, 0, 1, 0, 0));
        twoRows(1000000, 1000000).refuses("5: far beyond when made", BOUND, x -> x.join(2, 0, 1, 0, 0));
        Edge left = twoRows(1001, 999000).after(x -> x.join(2, 0, 1, 0, 0));
        left.has("5: 1001 by 999000", 2, "4 4 x999999000");
        left.refuses("5: one more on the right is 1000000001 times", BOUND, x -> x.put(1, 4, 0, 0, 0, 1));
        Edge right = twoRows(1000, 999001).after(x -> x.join(2, 0, 1, 0, 0));
        right.has("5: 1000 by 999001", 2, "4 4 x999001000");
        right.refuses("5: one more on the left is 1000000001 times", BOUND, x -> x.put(0, 4, 0, 0, 0, 1));
        Edge at = twoRows(1000, 999999).after(x -> x.join(2, 0, 1, 0, 0));
        at.gives("5: the bound itself by put", x -> x.put(1, 4, 0, 0, 0, 1), 2, "4 4 x" + MOST);
        at.gives("5: the bound itself by fill", x -> x.fill(1, 4, 0, 0, 0, 1), 2, "4 4 x" + MOST);
        at.refuses("5: beyond it by put", BOUND, x -> x.put(1, 4, 0, 0, 0, 2));
        at.refuses("5: beyond it by fill", BOUND, x -> x.fill(1, 4, 0, 0, 0, 2));
        at.answers("5: rows that are not the same", 1000000, x -> x.put(1, 5, 0, 0, 0, 1000000));
    }

    /** Products whose lower half, as an int, would look harmless. */
    private static void productsThatWouldWrap() {
        twoRows(65536, 65536).refuses("5: 2 to the 32nd is 0 as an int", BOUND, x -> x.join(2, 0, 1, 0, 0));
        twoRows(65536, 65537).refuses("5: a little more is 65536", BOUND, x -> x.join(2, 0, 1, 0, 0));
        twoRows(46341, 46341).refuses("5: below 0 as an int", BOUND, x -> x.join(2, 0, 1, 0, 0));
        Edge most = millions(1000);
        most.has("5: a row at the bound", 3, "0 x" + MOST);
        most.refuses("5: the bound by itself", BOUND, x -> x.join(4, 3, 3, 0, 0));
        Edge beside = most.after(x -> {
            x.table(4, 1);
            x.join(5, 3, 4, 0, 0);
        });
        beside.gives("5: the bound by 1", x -> x.put(4, 0, 0, 0, 0, 1), 5, "0 0 x" + MOST);
        beside.refuses("5: the bound by 2", BOUND, x -> x.put(4, 0, 0, 0, 0, 2));
        beside.refuses("5: the bound by a million", BOUND, x -> x.put(4, 0, 0, 0, 0, 1000000));
    }

    private static void unionTimes() {
        millions(500).gives("6: twice 500000000 when made", x -> x.both(4, 3, 3, false), 4, "0 x" + MOST);
        millions(501).refuses("6: twice 501000000 when made", BOUND, x -> x.both(4, 3, 3, false));
        millions(1000).refuses("6: twice the bound when made", BOUND, x -> x.both(4, 3, 3, false));
        millions(1000).gives("6: the bound less itself", x -> x.both(4, 3, 3, true), 4, "");
        Edge nearly = millions(999).after(x -> {
            x.table(4, 1);
            x.put(4, 0, 0, 0, 0, 999999);
            x.both(5, 3, 4, false);
            x.both(6, 4, 3, false);
        });
        nearly.has("6: one less than the bound", 5, "0 x999999999");
        nearly.gives("6: the bound itself by put", x -> x.put(4, 0, 0, 0, 0, 1), 5, "0 x" + MOST);
        nearly.gives("6: the other way round", x -> x.put(4, 0, 0, 0, 0, 1), 6, "0 x" + MOST);
        nearly.gives("6: the bound itself by fill", x -> x.fill(4, 0, 0, 0, 0, 1), 5, "0 x" + MOST);
        nearly.refuses("6: one beyond it by put", BOUND, x -> x.put(4, 0, 0, 0, 0, 2));
        nearly.refuses("6: one beyond it by fill", BOUND, x -> x.fill(4, 0, 0, 0, 0, 2));
        nearly.refuses("6: beyond it by what the other is of", BOUND, x -> x.put(0, 0, 0, 0, 0, 1));
        nearly.answers("6: another row", 1, x -> x.put(4, 1, 0, 0, 0, 1));
        Edge beyond = nearly.after(x -> {
            x.drop(5);
            x.drop(6);
            x.put(4, 0, 0, 0, 0, 2);
        });
        beyond.refuses("6: one beyond it when made", BOUND, x -> x.both(5, 3, 4, false));
        beyond.refuses("6: one beyond it when made the other way round", BOUND, x -> x.both(5, 4, 3, false));
    }

    private static void timesAtTheBoundGoOn() {
        Edge most = millions(1000, 1000);
        String both = "0 x" + MOST + " | 1 x" + MOST;
        most.gives("3: rows at the bound", x -> x.select(4, 3, 0, 3, 0, false), 4, both);
        most.gives("4: rows at the bound", x -> x.columns(4, 3, 0, NONE, NONE, NONE), 4, both);
        most.gives("7: rows at the bound", x -> x.once(4, 3), 4, "0 x1 | 1 x1");
        most.gives("8: how many at the bound", x -> x.group(4, 3, 0, 0, 0), 4, "0 " + MOST + " x1 | 1 " + MOST + " x1");
        most.gives("8: 2000000000 together", x -> x.group(4, 3, NONE, 0, 0), 4, 2 * MOST + " x1");
        most.asks("14: 2000000000 together", 2 * MOST, x -> x.size(3));
        Edge three = millions(1000, 1000, 1000);
        three.asks("14: 3000000000 is a long", 3000000000L, x -> x.size(3));
        Edge twenty = millions(1000, 1000, 1000, 1000, 1000, 1000, 1000, 1000, 1000, 1000,
            1000, 1000, 1000, 1000, 1000, 1000, 1000, 1000, 1000, 1000);
        twenty.asks("14: 20 rows at the bound", 20L * MOST, x -> x.size(3));
        twenty.gives("8: they wrap", x -> x.group(4, 3, NONE, 0, 0), 4, (int) (20L * MOST) + " x1");
        millionsAnd(3, 1000).has("6: a row at the bound and another", 5, "0 x" + MOST + " | 9 x3");
    }

    private static void lessIsMoreElsewhere() {
        Edge rows = fresh.after(x -> {
            x.table(0, 1);
            x.table(1, 1);
            x.both(2, 0, 1, true);
            x.table(3, 1);
            x.both(4, 2, 3, false);
            x.fill(0, 0, 1, 0, 0, 12);
            x.fill(1, 0, 1, 0, 0, 2);
            x.fill(3, 50, 1, 0, 0, 9);
        });
        rows.asks("10: a difference of 10 and 9 others", 19, x -> x.rows(4));
        rows.after(x -> x.put(1, 0, 0, 0, 0, -1)).asks("10: less on the right, the 20th row", 20, x -> x.rows(4));
        Edge full = rows.after(x -> x.put(1, 0, 0, 0, 0, -1));
        full.refuses("10: less on the right, the 21st row", BOUND, x -> x.put(1, 1, 0, 0, 0, -1));
        Edge times = fresh.after(x -> {
            x.table(0, 1);
            x.table(1, 1);
            x.table(2, 1);
            x.both(3, 0, 1, true);
            x.join(4, 3, 2, 0, 0);
            x.put(1, 5, 0, 0, 0, 3);
            x.put(2, 5, 0, 0, 0, 1000000);
            x.put(0, 5, 0, 0, 0, 1002);
        });
        times.has("10: 999 by 1000000", 4, "5 5 x999000000");
        times.gives("10: less on the right, the bound itself", x -> x.put(1, 5, 0, 0, 0, -1), 4, "5 5 x" + MOST);
        times.refuses("10: less on the right, beyond it", BOUND, x -> x.put(1, 5, 0, 0, 0, -2));
        times.refuses("10: all of it", BOUND, x -> x.put(1, 5, 0, 0, 0, -3));
        times.gives("10: more on the right", x -> x.put(1, 5, 0, 0, 0, 999), 4, "");
    }

    /** Seven views, each twice the one before, from place 7 down to 0: 128 times what the table has. */
    private static void deepViews() {
        Edge deep = fresh.after(x -> {
            x.table(7, 1);
            for (int v = 6; v >= 0; v--) {
                x.both(v, v + 1, v + 1, false);
            }
            for (int i = 0; i < 7; i++) {
                x.put(7, 3, 0, 0, 0, 1000000);
            }
        });
        deep.has("10: 128 times 7000000", 0, "3 x896000000");
        Edge at = deep.after(x -> x.put(7, 3, 0, 0, 0, 812500));
        at.has("10: 128 times 7812500", 0, "3 x" + MOST);
        at.refuses("10: the deepest one would be beyond it", BOUND, x -> x.put(7, 3, 0, 0, 0, 1));
        at.refuses("11: the deepest one would be beyond it", BOUND, x -> x.fill(7, 2, 1, 0, 0, 2));
        at.answers("11: not by another row", 2, x -> x.fill(7, 2, 2, 0, 0, 1));
        deep.refuses("10: beyond it at once", BOUND, x -> x.put(7, 3, 0, 0, 0, 812501));
        Edge shallow = at.after(x -> x.drop(0));
        shallow.answers("9: the next one is not at the bound", 7812501, x -> x.put(7, 3, 0, 0, 0, 1));
        shallow.after(x -> x.put(7, 3, 0, 0, 0, 1)).refuses("6: made again it would be", BOUND,
            x -> x.both(0, 1, 1, false));
    }

    /** Pairs of the rows of table 0 whose key is how many rows table 7 has: 25 for one, 16 for two. */
    private static void allAtOnce() {
        Edge pairs = fresh.after(x -> {
            x.table(0, 2);
            x.fill(0, 1, 0, 0, 1, 5);
            x.fill(0, 2, 0, 0, 1, 4);
            x.table(7, 1);
            x.group(1, 7, NONE, 0, 0);
            x.join(2, 1, 0, 0, 0);
            x.columns(3, 2, 0, 2, NONE, NONE);
            x.join(4, 3, 3, 0, 0);
        });
        pairs.refuses("11: one row leads to 25 pairs", BOUND, x -> x.fill(7, 8, 0, 0, 0, 1));
        pairs.refuses("10: one row leads to 25 pairs", BOUND, x -> x.put(7, 8, 0, 0, 0, 1));
        Edge two = pairs.after(x -> x.fill(7, 8, 1, 0, 0, 2));
        two.asks("11: two rows, all at once, lead to 16", 16, x -> x.rows(4));
        two.asks("17: changed all at once", 16, x -> x.changed(4));
        two.asks("17: from no row to one", 1, x -> x.changed(1));
        two.refuses("10: back to one row", BOUND, x -> x.put(7, 9, 0, 0, 0, -1));
        pairs.after(x -> x.put(7, 8, 0, 0, 0, 2)).asks("10: twice a row leads to 16", 16, x -> x.rows(4));
        Edge three = two.after(x -> x.put(7, 8, 0, 0, 0, 1));
        three.asks("10: three rows lead to none", 0, x -> x.rows(4));
        three.refuses("10: from three to one", BOUND, x -> x.put(7, 8, 0, 0, 0, -2));
        three.answers("10: from three to two", 1, x -> x.put(7, 8, 0, 0, 0, -1));
    }

    /** View 2 has a million times what table 7 has, twice less once: no view counts with what is not anew yet. */
    private static void oneTableByTwoWays() {
        Edge ways = fresh.after(x -> {
            x.table(7, 1);
            x.both(0, 7, 7, false);
            x.columns(5, 7, 0, NONE, NONE, NONE);
            x.both(4, 0, 5, true);
            x.table(3, 1);
            x.put(3, 8, 0, 0, 0, 1000000);
            x.join(2, 4, 3, 0, 0);
        });
        ways.gives("10: the bound itself", x -> x.put(7, 8, 0, 0, 0, 1000), 2, "8 8 x" + MOST);
        ways.refuses("10: one more", BOUND, x -> x.put(7, 8, 0, 0, 0, 1001));
        Edge at = ways.after(x -> x.put(7, 8, 0, 0, 0, 1000));
        at.gives("10: less again", x -> x.put(7, 8, 0, 0, 0, -1), 2, "8 8 x999000000");
        at.gives("10: none again", x -> x.put(7, 8, 0, 0, 0, -1000), 2, "");
        Edge less = fresh.after(x -> {
            x.table(7, 1);
            x.once(1, 7);
            x.once(6, 1);
            x.both(0, 6, 1, true);
            x.group(2, 0, NONE, 0, 0);
        });
        Edge filled = less.after(x -> x.fill(7, 0, 1, 0, 0, 20));
        filled.asks("10: a difference of two that are the same", 0, x -> x.rows(0));
        filled.asks("17: it never had a row", 0, x -> x.changed(0));
        filled.asks("17: nor its group", 0, x -> x.changed(2));
    }

    /** What is above one side only is anew before the view, whichever side that is. */
    private static void oneSideDeeper() {
        Edge right = fresh.after(x -> {
            x.table(7, 1);
            x.once(6, 7);
            x.once(5, 6);
            x.both(0, 7, 5, true);
            x.table(3, 1);
            x.put(3, 8, 0, 0, 0, 1000000);
            x.join(1, 0, 3, 0, 0);
        });
        right.gives("10: 1001 less 1 is at the bound", x -> x.put(7, 8, 0, 0, 0, 1001), 1, "8 8 x" + MOST);
        right.refuses("10: 1002 less 1 is beyond it", BOUND, x -> x.put(7, 8, 0, 0, 0, 1002));
        right.gives("10: 1 less 1", x -> x.put(7, 8, 0, 0, 0, 1), 0, "");
        Edge left = fresh.after(x -> {
            x.table(7, 1);
            x.both(6, 7, 7, false);
            x.both(5, 6, 7, false);
            x.both(0, 5, 7, true);
            x.table(3, 1);
            x.put(3, 8, 0, 0, 0, 1000000);
            x.join(1, 3, 0, 0, 0);
        });
        left.gives("10: 1500 less 500 is at the bound", x -> x.put(7, 8, 0, 0, 0, 500), 1, "8 8 x" + MOST);
        left.refuses("10: 1503 less 501 is beyond it", BOUND, x -> x.put(7, 8, 0, 0, 0, 501));
    }

    /** What a refused view had got so far is not seen in what is made there next. */
    private static void refusedViewLeavesItsPlace() {
        Edge tables = twoTables(20, 9);
        tables.refuses("6: refused", BOUND, x -> x.both(2, 0, 1, false));
        Edge refused = tables.after(x -> Due.said(() -> {
            x.both(2, 0, 1, false);
            return 0;
        }));
        refused.gives("2: a table there has no rows", x -> x.table(2, 1), 2, "");
        refused.gives("3: a view there has its own", x -> x.select(2, 1, 0, 0, 100, false), 2, "100 x1");
        refused.gives("6: a difference there has its own", x -> x.both(2, 1, 1, true), 2, "");
        refused.gives("8: a group there has its own", x -> x.group(2, 0, NONE, 0, 0), 2, "20 x1");
        refused.accepts("9: no view is of its sources", x -> {
            x.drop(0);
            x.drop(1);
        });
        refused.refuses("9: it is none", INDEX, x -> x.drop(2));
    }

    private static void othersAreNamedBefore() {
        Edge full = rowsInTable(20);
        full.refuses("10: no relation", INDEX, x -> x.put(2, 7, 0, 0, 0, 1));
        full.refuses("10: a view", STATE, x -> x.put(1, 7, 0, 0, 0, 1));
        full.refuses("10: n", ARGUMENT, x -> x.put(0, 7, 0, 0, 0, 1000001));
        full.refuses("10: not so often", ARGUMENT, x -> x.put(0, 7, 0, 0, 0, -1));
        full.refuses("11: no relation", INDEX, x -> x.fill(2, 0, 1, 0, 0, 40));
        full.refuses("11: a view", STATE, x -> x.fill(1, 0, 1, 0, 0, 40));
        full.refuses("11: n", ARGUMENT, x -> x.fill(0, 0, 1, 0, 0, 41));
        Edge tables = twoTables(20, 9);
        tables.refuses("6: no relation", INDEX, x -> x.both(8, 0, 1, false));
        tables.refuses("6: is there", STATE, x -> x.both(1, 0, 1, false));
        tables.refuses("6: beyond the bound", BOUND, x -> x.both(7, 0, 1, false));
        Edge rows = twoRows(1000000, 1000000);
        rows.refuses("5: no column", INDEX, x -> x.join(0, 0, 1, 0, 1));
        rows.refuses("5: is there", STATE, x -> x.join(0, 0, 1, 0, 0));
        rows.refuses("5: beyond the bound", BOUND, x -> x.join(7, 0, 1, 0, 0));
        Edge sums = millions(1000, 1000);
        sums.refuses("4: no column", INDEX, x -> x.columns(0, 2, 1, NONE, NONE, 3));
        sums.refuses("4: is there", STATE, x -> x.columns(0, 2, 1, NONE, NONE, NONE));
        sums.refuses("4: behind NONE", ARGUMENT, x -> x.columns(4, 2, NONE, 1, NONE, NONE));
        sums.refuses("4: beyond the bound", BOUND, x -> x.columns(4, 2, 1, NONE, NONE, NONE));
        Edge wide = fresh.after(x -> {
            x.table(0, 3);
            x.table(1, 2);
            x.put(0, 1, 0, 0, 0, 1000000);
            x.put(1, 1, 0, 0, 0, 1000000);
        });
        wide.refuses("5: more than 4 columns, and beyond the bound", ARGUMENT, x -> x.join(2, 0, 1, 0, 0));
    }

    private static void changedIsOfTheLatestAccepted() {
        Edge full = twoTables(12, 8).after(x -> x.both(2, 0, 1, false)).after(x -> x.fill(0, 0, 1, 0, 0, 5));
        Edge refused = full.after(x -> {
            Due.said(() -> x.put(1, 7000, 0, 0, 0, 1));
            Due.said(() -> x.fill(1, 7000, 1, 0, 0, 3));
        });
        refused.asks("17: refused ones do not count", 5, x -> x.changed(0));
        refused.asks("17: nor for the other table", 0, x -> x.changed(1));
        refused.asks("17: nor for the view", 5, x -> x.changed(2));
        Edge most = rowsInTable(20).after(x -> x.fill(0, 0, 2, 0, 0, 20));
        most.asks("17: all 20 rows", 20, x -> x.changed(0));
        most.asks("17: once has them as before", 0, x -> x.changed(1));
        rowsInTable(20).asks("17: 20 new rows", 20, x -> x.changed(1));
        Edge groups = twoTables(20, 1).after(x -> {
            x.group(2, 0, 0, 0, 0);
            x.fill(0, 0, 1, 0, 0, 20);
        });
        groups.asks("17: 20 rows go and 20 come", 40, x -> x.changed(2));
    }

    private BoundsTest() {
    }
}
