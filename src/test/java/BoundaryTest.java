import java.util.function.Consumer;

/**
 * Promise by promise, each sentence that names a boundary: the last input on its near side, the first on its
 * far side, and that a refused call has changed nothing. The BOUNDS of rows and times are BoundsTest's.
 */
public final class BoundaryTest {
    private static final Class<IndexOutOfBoundsException> INDEX = IndexOutOfBoundsException.class;
    private static final Class<IllegalStateException> STATE = IllegalStateException.class;
    private static final Class<IllegalArgumentException> ARGUMENT = IllegalArgumentException.class;
    private static final int NONE = BagViews.NONE;
    private static final int MIN = Integer.MIN_VALUE;
    private static final int MAX = Integer.MAX_VALUE;
    private static final int[] NO_PLACES = {-1, 8, MIN, MAX};
    /** The wide state's table of w columns is w - 1. */
    private static final int[] WIDTHS = {1, 2, 3, 4};

    private static final Due due = new Due();
    private static final Edge fresh = new Edge(due, BagViews::new);
    private static final Edge some = new Edge(due, BoundaryTest::some);
    private static final Edge wide = new Edge(due, BoundaryTest::wide);

    public static void main(String[] args) {
        newObject();
        table();
        tableIsWithoutRows();
        places();
        selectColumns();
        selectComparisons();
        selectByColumn();
        columnsChosen();
        columnsBehindNone();
        joinWidths();
        joinRows();
        bothWidths();
        union();
        difference();
        once();
        groupArguments();
        groupOfAll();
        groupWrapsHowMany();
        groupWrapsSums();
        groupLeastAndGreatest();
        drop();
        putArguments();
        putTimes();
        putColumns();
        fillArguments();
        fillWraps();
        width();
        rowsAndSize();
        times();
        cell();
        changed();
        count();
        order();
        lastCall();
        due.end();
    }

    /** Tables 0, 2, 3 of 2, 3, 1 columns, views 1, 4, 5 over 0; the latest put changed all of these four. */
    private static BagViews some() {
        BagViews x = new BagViews();
        x.table(0, 2);
        x.once(1, 0);
        x.table(2, 3);
        x.table(3, 1);
        x.both(4, 0, 1, false);
        x.group(5, 4, 0, 1, 1);
        x.put(2, 1, 2, 3, 0, 2);
        x.put(3, 7, 0, 0, 0, 1);
        x.put(0, 3, 1, 0, 0, 2);
        x.put(0, 2, 2, 0, 0, 4);
        x.put(0, 1, 3, 0, 0, 5);
        x.put(0, 1, -2, 0, 0, 1);
        return x;
    }

    /** Tables 0 to 3 of 1 to 4 columns, with one row each. */
    private static BagViews wide() {
        BagViews x = new BagViews();
        for (int columns : WIDTHS) {
            x.table(columns - 1, columns);
            x.put(columns - 1, 1, 2, 3, 4, columns);
        }
        return x;
    }

    private static void newObject() {
        for (int i = 0; i < 8; i++) {
            int r = i;
            fresh.asks("1: no relation " + r, 0, x -> x.width(r));
            noRelation("1: no relation " + r, fresh, r);
        }
        for (int i = 0; i < 3; i++) {
            int what = i;
            fresh.asks("1: nothing to count", 0, x -> x.count(what));
        }
    }

    /** Every call that wants a relation to be there is refused. */
    private static void noRelation(String what, Edge edge, int r) {
        edge.refuses(what + ": drop", INDEX, x -> x.drop(r));
        edge.refuses(what + ": put", INDEX, x -> x.put(r, 0, 0, 0, 0, 1));
        edge.refuses(what + ": fill", INDEX, x -> x.fill(r, 0, 0, 0, 0, 1));
        edge.refuses(what + ": rows", INDEX, x -> x.rows(r));
        edge.refuses(what + ": size", INDEX, x -> x.size(r));
        edge.refuses(what + ": times", INDEX, x -> x.times(r, 0, 0, 0, 0));
        edge.refuses(what + ": cell", INDEX, x -> x.cell(r, 0, 0));
        edge.refuses(what + ": changed", INDEX, x -> x.changed(r));
    }

    private static void table() {
        for (int r : new int[] {0, 7}) {
            for (int columns : WIDTHS) {
                fresh.after(x -> x.table(r, columns)).asks("2: columns", columns, x -> x.width(r));
            }
            for (int columns : new int[] {0, 5, -1, MIN, MAX}) {
                fresh.refuses("2: not 1 .. 4 columns", ARGUMENT, x -> x.table(r, columns));
            }
        }
        for (int r : NO_PLACES) {
            fresh.refuses("2: not 0 .. 7", INDEX, x -> x.table(r, 1));
            fresh.refuses("2: not 0 .. 7 is named before columns", INDEX, x -> x.table(r, 0));
        }
        for (int r : new int[] {0, 1, 5}) {
            some.refuses("2: is there", STATE, x -> x.table(r, 2));
            some.refuses("2: is there is named before columns", STATE, x -> x.table(r, 0));
            some.refuses("2: is there is named before columns", STATE, x -> x.table(r, 5));
        }
    }

    private static void tableIsWithoutRows() {
        Edge again = some.after(x -> {
            x.drop(3);
            x.table(3, 4);
        });
        again.has("2: a table made where one with rows was", 3, "");
        again.asks("2: its columns are the new ones", 4, x -> x.width(3));
        again.asks("2: its times", 0, x -> x.times(3, 7, 0, 0, 0));
        Edge view = some.after(x -> {
            x.drop(5);
            x.table(5, 2);
        });
        view.has("2: a table made where a view was", 5, "");
        view.gives("2: it is no view", x -> x.put(5, 1, 1, 0, 0, 1), 5, "1 1 x1");
        view.gives("2: nor follows any more", x -> x.put(0, 9, 9, 0, 0, 1), 5, "");
    }

    private interface Maker {
        void make(BagViews x, int v, int of);
    }

    private static void places() {
        place("3: select", (x, v, of) -> x.select(v, of, 0, 0, 5, false));
        place("3: select by column", (x, v, of) -> x.select(v, of, 0, 0, 0, true));
        place("4: columns", (x, v, of) -> x.columns(v, of, 0, NONE, NONE, NONE));
        place("5: join, left", (x, v, of) -> x.join(v, of, 3, 0, 0));
        place("5: join, right", (x, v, of) -> x.join(v, 3, of, 0, 0));
        place("6: union, left", (x, v, of) -> x.both(v, of, 3, false));
        place("6: union, right", (x, v, of) -> x.both(v, 3, of, false));
        place("6: difference, left", (x, v, of) -> x.both(v, of, 3, true));
        place("6: difference, right", (x, v, of) -> x.both(v, 3, of, true));
        place("7: once", (x, v, of) -> x.once(v, of));
        place("8: group", (x, v, of) -> x.group(v, of, 0, 0, 0));
        place("8: group of all", (x, v, of) -> x.group(v, of, NONE, 0, 0));
    }

    /** Where a view may be made, and of what. */
    private static void place(String what, Maker maker) {
        Edge one = fresh.after(x -> {
            x.table(3, 1);
            x.put(3, 5, 0, 0, 0, 2);
        });
        for (int v : new int[] {0, 7}) {
            one.after(x -> maker.make(x, v, 3)).asks(what + " at " + v, 2, x -> x.count(0));
            one.after(x -> x.table(v, 1)).accepts(what + " of " + v, x -> maker.make(x, 4, v));
            one.refuses(what + " of none", INDEX, x -> maker.make(x, 4, v));
            one.refuses(what + " of itself", INDEX, x -> maker.make(x, v, v));
        }
        for (int r : NO_PLACES) {
            one.refuses(what + " not at 0 .. 7", INDEX, x -> maker.make(x, r, 3));
            one.refuses(what + " not of 0 .. 7", INDEX, x -> maker.make(x, 4, r));
            one.refuses(what + ": no source is named before is there", INDEX, x -> maker.make(x, 3, r));
        }
        one.refuses(what + ": none is named before is there", INDEX, x -> maker.make(x, 3, 4));
        one.refuses(what + " of itself that is there", STATE, x -> maker.make(x, 3, 3));
        Edge two = one.after(x -> maker.make(x, 4, 3));
        two.refuses(what + ": a view is there", STATE, x -> maker.make(x, 4, 3));
        two.accepts(what + " of a view", x -> x.once(5, 4));
        two.refuses(what + ": is there", STATE, x -> maker.make(x, 3, 3));
    }

    private static void selectColumns() {
        for (int columns : WIDTHS) {
            int of = columns - 1;
            for (int c : new int[] {0, columns - 1}) {
                wide.accepts("3: column " + c, x -> x.select(7, of, c, 0, 0, false));
                wide.gives("3: other column " + c, x -> x.select(7, of, c, 0, c, true), 7, Due.rowsOf(wide(), of));
            }
            for (int c : new int[] {-1, columns, MIN, MAX}) {
                wide.refuses("3: no column", INDEX, x -> x.select(7, of, c, 0, 0, false));
                wide.refuses("3: no other column", INDEX, x -> x.select(7, of, 0, 0, c, true));
                wide.accepts("3: a number is no column", x -> x.select(7, of, 0, 0, c, false));
                wide.refuses("3: column is named before is there", INDEX, x -> x.select(of, of, c, 0, 0, false));
                wide.refuses("3: other column is named before is there", INDEX, x -> x.select(of, of, 0, 0, c, true));
                wide.refuses("3: column is named before comparison", INDEX, x -> x.select(7, of, c, 6, 0, false));
            }
        }
        for (int compare : new int[] {-1, 6, MIN, MAX}) {
            some.refuses("3: no such comparison", ARGUMENT, x -> x.select(7, 0, 0, compare, 0, false));
            some.refuses("3: no such comparison of columns", ARGUMENT, x -> x.select(7, 0, 0, compare, 1, true));
            some.refuses("3: is there is named before comparison", STATE, x -> x.select(5, 0, 0, compare, 0, false));
        }
    }

    private static void selectComparisons() {
        Edge five = fresh.after(x -> {
            x.table(0, 1);
            for (int value : new int[] {MIN, 4, 5, 6, MAX}) {
                x.put(0, value, 0, 0, 0, 2);
            }
        });
        String least = MIN + " x2";
        String greatest = MAX + " x2";
        String all = least + " | 4 x2 | 5 x2 | 6 x2 | " + greatest;
        String[] by5 = {
            "5 x2", least + " | 4 x2 | 6 x2 | " + greatest, least + " | 4 x2",
            "5 x2 | 6 x2 | " + greatest, "6 x2 | " + greatest, least + " | 4 x2 | 5 x2"};
        String notLeast = "4 x2 | 5 x2 | 6 x2 | " + greatest;
        String[] byLeast = {least, notLeast, "", all, notLeast, least};
        String notGreatest = least + " | 4 x2 | 5 x2 | 6 x2";
        String[] byGreatest = {greatest, notGreatest, notGreatest, greatest, "", all};
        for (int i = 0; i < 6; i++) {
            int compare = i;
            five.gives("3: at a number, " + i, x -> x.select(1, 0, 0, compare, 5, false), 1, by5[i]);
            five.gives("3: at the least int, " + i, x -> x.select(1, 0, 0, compare, MIN, false), 1, byLeast[i]);
            five.gives("3: at the greatest int, " + i, x -> x.select(1, 0, 0, compare, MAX, false), 1, byGreatest[i]);
        }
    }

    private static void selectByColumn() {
        Edge pairs = fresh.after(x -> {
            x.table(0, 2);
            x.put(0, 5, 4, 0, 0, 1);
            x.put(0, 5, 5, 0, 0, 2);
            x.put(0, 5, 6, 0, 0, 3);
            x.put(0, MIN, MAX, 0, 0, 4);
            x.put(0, MAX, MIN, 0, 0, 5);
        });
        String less = MIN + " " + MAX + " x4";
        String greater = MAX + " " + MIN + " x5";
        String[] want = {
            "5 5 x2", less + " | 5 4 x1 | 5 6 x3 | " + greater, less + " | 5 6 x3",
            "5 4 x1 | 5 5 x2 | " + greater, "5 4 x1 | " + greater, less + " | 5 5 x2 | 5 6 x3"};
        for (int i = 0; i < 6; i++) {
            int compare = i;
            pairs.gives("3: two columns, " + i, x -> x.select(1, 0, 0, compare, 1, true), 1, want[i]);
            pairs.gives("3: with itself, " + i, x -> x.select(1, 0, 1, compare, 1, true), 1,
                i == 0 || i == 3 || i == 5 ? Due.rowsOf(build(pairs), 0) : "");
        }
        Edge empty = fresh.after(x -> {
            x.table(0, 1);
            x.select(1, 0, 0, 0, 3, false);
        });
        empty.has("3: of no rows", 1, "");
        empty.gives("3: the first row", x -> x.put(0, 3, 0, 0, 0, 1), 1, "3 x1");
        empty.gives("3: not the next number", x -> x.put(0, 4, 0, 0, 0, 1), 1, "");
    }

    private static BagViews build(Edge edge) {
        BagViews[] made = new BagViews[1];
        edge.accepts("the state itself", x -> made[0] = x);
        return made[0];
    }

    private static void columnsChosen() {
        for (int columns : WIDTHS) {
            int of = columns - 1;
            for (int c : new int[] {0, columns - 1}) {
                Edge chosen = wide.after(x -> x.columns(7, of, c, c, c, c));
                int value = c + 1;
                chosen.has("4: one more than once", 7,
                    value + " " + value + " " + value + " " + value + " x" + columns);
            }
            for (int c : new int[] {-2, columns, MIN, MAX}) {
                wide.refuses("4: no column a", INDEX, x -> x.columns(7, of, c, 0, 0, 0));
                wide.refuses("4: no column b", INDEX, x -> x.columns(7, of, 0, c, 0, 0));
                wide.refuses("4: no column c", INDEX, x -> x.columns(7, of, 0, 0, c, 0));
                wide.refuses("4: no column d", INDEX, x -> x.columns(7, of, 0, 0, 0, c));
                wide.refuses("4: no column alone", INDEX, x -> x.columns(7, of, c, NONE, NONE, NONE));
                wide.refuses("4: column is named before is there", INDEX, x -> x.columns(of, of, 0, 0, 0, c));
                wide.refuses("4: column is named before behind NONE", INDEX, x -> x.columns(7, of, NONE, c, 0, 0));
            }
        }
    }

    /** All 16 ways to want a column or NONE in the four places. */
    private static void columnsBehindNone() {
        for (int ways = 0; ways < 16; ways++) {
            int[] at = new int[4];
            for (int i = 0; i < 4; i++) {
                at[i] = (ways >> i & 1) == 1 ? i : NONE;
            }
            boolean none = ways == 0;
            boolean behind = (ways & (ways + 1)) != 0;
            Consumer<BagViews> call = x -> x.columns(7, 3, at[0], at[1], at[2], at[3]);
            if (none || behind) {
                wide.refuses(none ? "4: none at all" : "4: a column behind NONE", ARGUMENT, call);
                wide.refuses("4: is there is named before NONE", STATE,
                    x -> x.columns(0, 3, at[0], at[1], at[2], at[3]));
            } else {
                wide.after(call).asks("4: NONE from some place on", Integer.bitCount(ways), x -> x.width(7));
            }
        }
        Edge sums = fresh.after(x -> {
            x.table(0, 2);
            x.columns(1, 0, 1, NONE, NONE, NONE);
        });
        sums.has("4: of no rows", 1, "");
        Edge summed = sums.after(x -> {
            x.put(0, 1, 8, 0, 0, 2);
            x.put(0, 2, 8, 0, 0, 3);
        });
        summed.has("4: times are summed", 1, "8 x5");
        summed.gives("4: one of two rows goes", x -> x.put(0, 2, 8, 0, 0, -3), 1, "8 x2");
    }

    private static void joinWidths() {
        for (int left : WIDTHS) {
            for (int right : WIDTHS) {
                int together = left + right;
                Consumer<BagViews> call = x -> x.join(7, left - 1, right - 1, 0, 0);
                if (together <= 4) {
                    wide.after(call).asks("5: columns together", together, x -> x.width(7));
                    wide.after(call).asks("5: times multiplied", left * right, x -> x.cell(7, 0, together));
                } else {
                    wide.refuses("5: more than 4 columns", ARGUMENT, call);
                    wide.refuses("5: is there is named before columns", STATE,
                        x -> x.join(0, left - 1, right - 1, 0, 0));
                    wide.refuses("5: column is named before columns", INDEX,
                        x -> x.join(7, left - 1, right - 1, left, 0));
                }
                wide.refuses("5: no column on the left", INDEX, x -> x.join(7, left - 1, right - 1, left, 0));
                wide.refuses("5: no column on the right", INDEX, x -> x.join(7, left - 1, right - 1, 0, right));
                wide.refuses("5: right column is named before is there", INDEX,
                    x -> x.join(0, left - 1, right - 1, 0, right));
            }
        }
        for (int c : new int[] {-1, MIN, MAX}) {
            wide.refuses("5: no column on the left", INDEX, x -> x.join(7, 0, 0, c, 0));
            wide.refuses("5: no column on the right", INDEX, x -> x.join(7, 0, 0, 0, c));
        }
        wide.accepts("5: last column on the left", x -> x.join(7, 2, 0, 2, 0));
        wide.accepts("5: last column on the right", x -> x.join(7, 0, 2, 0, 2));
    }

    private static void joinRows() {
        Edge two = fresh.after(x -> {
            x.table(0, 1);
            x.table(1, 1);
            x.join(2, 0, 1, 0, 0);
        });
        two.has("5: of no rows", 2, "");
        Edge left = two.after(x -> x.put(0, MAX, 0, 0, 0, 3));
        left.has("5: none on the right", 2, "");
        left.gives("5: not the same", x -> x.put(1, MIN, 0, 0, 0, 2), 2, "");
        left.gives("5: not quite the same", x -> x.put(1, MAX - 1, 0, 0, 0, 2), 2, "");
        Edge pair = left.after(x -> x.put(1, MAX, 0, 0, 0, 2));
        pair.has("5: the same", 2, MAX + " " + MAX + " x6");
        pair.gives("5: once less", x -> x.put(1, MAX, 0, 0, 0, -1), 2, MAX + " " + MAX + " x3");
        pair.gives("5: not any more", x -> x.put(1, MAX, 0, 0, 0, -2), 2, "");
        two.gives("5: none on the left", x -> x.put(1, MAX, 0, 0, 0, 2), 2, "");
    }

    private static void bothWidths() {
        for (boolean less : new boolean[] {false, true}) {
            for (int left : WIDTHS) {
                for (int right : WIDTHS) {
                    Consumer<BagViews> call = x -> x.both(7, left - 1, right - 1, less);
                    if (left == right) {
                        wide.after(call).asks("6: as many columns", left, x -> x.width(7));
                    } else {
                        wide.refuses("6: not as many columns", ARGUMENT, call);
                        wide.refuses("6: is there is named before columns", STATE,
                            x -> x.both(0, left - 1, right - 1, less));
                    }
                }
            }
        }
    }

    private static Edge twoTables() {
        return fresh.after(x -> {
            x.table(0, 1);
            x.table(1, 1);
            x.both(2, 0, 1, false);
            x.both(3, 0, 1, true);
        });
    }

    private static void union() {
        Edge two = twoTables();
        two.has("6: union of no rows", 2, "");
        two.gives("6: none on the right", x -> x.put(0, 4, 0, 0, 0, 5), 2, "4 x5");
        two.gives("6: none on the left", x -> x.put(1, 4, 0, 0, 0, 5), 2, "4 x5");
        Edge sum = two.after(x -> {
            x.put(0, 4, 0, 0, 0, 5);
            x.put(1, 4, 0, 0, 0, 1);
        });
        sum.has("6: times are summed", 2, "4 x6");
        sum.gives("6: one side went", x -> x.put(1, 4, 0, 0, 0, -1), 2, "4 x5");
        sum.gives("6: the other side went", x -> x.put(0, 4, 0, 0, 0, -5), 2, "4 x1");
    }

    private static void difference() {
        Edge two = twoTables();
        two.has("6: difference of no rows", 3, "");
        two.gives("6: rows on the right alone", x -> x.put(1, 4, 0, 0, 0, 1), 3, "");
        Edge left = two.after(x -> x.put(0, 4, 0, 0, 0, 5));
        left.has("6: less nothing", 3, "4 x5");
        left.gives("6: 1 above 0", x -> x.put(1, 4, 0, 0, 0, 4), 3, "4 x1");
        left.gives("6: 0 is not above 0", x -> x.put(1, 4, 0, 0, 0, 5), 3, "");
        left.gives("6: below 0", x -> x.put(1, 4, 0, 0, 0, 6), 3, "");
        left.gives("6: far below 0", x -> x.put(1, 4, 0, 0, 0, 1000000), 3, "");
        left.gives("6: another row", x -> x.put(1, 5, 0, 0, 0, 5), 3, "4 x5");
        Edge equal = left.after(x -> x.put(1, 4, 0, 0, 0, 5));
        equal.gives("6: above 0 again by the left", x -> x.put(0, 4, 0, 0, 0, 1), 3, "4 x1");
        equal.gives("6: above 0 again by the right", x -> x.put(1, 4, 0, 0, 0, -1), 3, "4 x1");
    }

    private static void once() {
        Edge empty = fresh.after(x -> {
            x.table(0, 1);
            x.once(1, 0);
        });
        empty.has("7: of no rows", 1, "");
        empty.gives("7: once is once", x -> x.put(0, 4, 0, 0, 0, 1), 1, "4 x1");
        empty.gives("7: twice is once", x -> x.put(0, 4, 0, 0, 0, 2), 1, "4 x1");
        Edge often = empty.after(x -> x.put(0, 4, 0, 0, 0, 1000000));
        often.has("7: a million times is once", 1, "4 x1");
        often.gives("7: one left is once", x -> x.put(0, 4, 0, 0, 0, -999999), 1, "4 x1");
        often.gives("7: none left is none", x -> x.put(0, 4, 0, 0, 0, -1000000), 1, "");
    }

    private static void groupArguments() {
        for (int columns : WIDTHS) {
            int of = columns - 1;
            for (int sort = 0; sort < 4; sort++) {
                int kind = sort;
                wide.after(x -> x.group(7, of, NONE, kind, columns - 1)).asks("8: by NONE", 1, x -> x.width(7));
                wide.after(x -> x.group(7, of, 0, kind, 0)).asks("8: by column 0", 2, x -> x.width(7));
                wide.after(x -> x.group(7, of, columns - 1, kind, 0)).asks("8: by the last", 2, x -> x.width(7));
                for (int c : new int[] {-1, columns, MIN, MAX}) {
                    wide.refuses("8: no column c, sort " + sort, INDEX, x -> x.group(7, of, 0, kind, c));
                    wide.refuses("8: no column c, of all", INDEX, x -> x.group(7, of, NONE, kind, c));
                }
            }
            for (int by : new int[] {-2, columns, MIN, MAX}) {
                wide.refuses("8: no column to group by", INDEX, x -> x.group(7, of, by, 0, 0));
                wide.refuses("8: it is named before is there", INDEX, x -> x.group(of, of, by, 0, 0));
                wide.refuses("8: it is named before sort", INDEX, x -> x.group(7, of, by, 4, 0));
                wide.refuses("8: c is named before is there", INDEX, x -> x.group(of, of, 0, 4, by));
            }
        }
        for (int sort : new int[] {-1, 4, MIN, MAX}) {
            some.refuses("8: no such sort", ARGUMENT, x -> x.group(7, 0, 0, sort, 0));
            some.refuses("8: no such sort, of all", ARGUMENT, x -> x.group(7, 0, NONE, sort, 0));
            some.refuses("8: is there is named before sort", STATE, x -> x.group(5, 0, 0, sort, 0));
        }
    }

    private static void groupOfAll() {
        for (int i = 0; i < 4; i++) {
            int sort = i;
            for (int by : new int[] {NONE, 0}) {
                String front = by == NONE ? "" : "9 ";
                int[] one = {2, 18, 9, 9};
                Edge empty = fresh.after(x -> {
                    x.table(0, 1);
                    x.group(1, 0, by, sort, 0);
                });
                empty.has("8: if there are any: there are none", 1, "");
                Edge first = empty.after(x -> x.put(0, 9, 0, 0, 0, 2));
                first.has("8: one row", 1, front + one[i] + " x1");
                first.gives("8: none again", x -> x.put(0, 9, 0, 0, 0, -2), 1, "");
            }
        }
        Edge two = fresh.after(x -> {
            x.table(0, 2);
            x.put(0, 9, 1, 0, 0, 2);
            x.put(0, 9, 2, 0, 0, 3);
        });
        two.gives("8: two rows of a value", x -> x.group(1, 0, 0, 0, 1), 1, "9 5 x1");
        two.gives("8: of another value", x -> x.group(1, 0, 1, 0, 0), 1, "1 2 x1 | 2 3 x1");
    }

    /** Relation 5 has rows 2147483647 times in all, 6 is how many there are; a put in 4 adds to them. */
    private static BagViews mostInts() {
        BagViews x = new BagViews();
        x.table(0, 2);
        x.put(0, 1, 0, 0, 0, 1000);
        x.put(0, 2, 0, 0, 0, 1000);
        x.put(0, 3, 0, 0, 0, 147);
        x.table(1, 1);
        x.put(1, 0, 0, 0, 0, 1000000);
        x.join(2, 0, 1, 1, 0);
        x.columns(3, 2, 0, NONE, NONE, NONE);
        x.table(4, 1);
        x.put(4, 4, 0, 0, 0, 483647);
        x.both(5, 3, 4, false);
        x.group(6, 5, NONE, 0, 0);
        return x;
    }

    private static void groupWrapsHowMany() {
        Edge most = new Edge(due, BoundaryTest::mostInts);
        most.asks("14: the greatest int of rows", MAX, x -> x.size(5));
        most.has("8: how many, the last before it wraps", 6, MAX + " x1");
        Edge wrapped = most.after(x -> x.put(4, 4, 0, 0, 0, 1));
        wrapped.asks("14: a size does not wrap", MAX + 1L, x -> x.size(5));
        wrapped.has("8: how many wraps", 6, MIN + " x1");
        most.gives("8: one less", x -> x.put(4, 4, 0, 0, 0, -1), 6, (MAX - 1) + " x1");
    }

    private static void groupWrapsSums() {
        Edge sum = fresh.after(x -> {
            x.table(0, 2);
            x.group(1, 0, NONE, 1, 1);
        });
        Edge greatest = sum.after(x -> x.put(0, 1, MAX, 0, 0, 1));
        greatest.has("8: the greatest sum", 1, MAX + " x1");
        greatest.gives("8: 1 more wraps", x -> x.put(0, 1, 1, 0, 0, 1), 1, MIN + " x1");
        greatest.gives("8: twice wraps", x -> x.put(0, 1, MAX, 0, 0, 1), 1, "-2 x1");
        greatest.gives("8: 0 more does not", x -> x.put(0, 1, 0, 0, 0, 9), 1, MAX + " x1");
        Edge least = sum.after(x -> x.put(0, 1, MIN, 0, 0, 1));
        least.has("8: the least sum", 1, MIN + " x1");
        least.gives("8: 1 less wraps", x -> x.put(0, 1, -1, 0, 0, 1), 1, MAX + " x1");
        least.gives("8: twice wraps to 0", x -> x.put(0, 1, MIN, 0, 0, 1), 1, "0 x1");
        sum.gives("8: 2147 million by times", x -> x.put(0, 1, 2147, 0, 0, 1000000), 1, "2147000000 x1");
        sum.gives("8: 2148 million by times wrap", x -> x.put(0, 1, 2148, 0, 0, 1000000), 1,
            (int) 2148000000L + " x1");
        sum.gives("8: far beyond a long's half", x -> x.put(0, 1, MAX, 0, 0, 1000000), 1,
            (int) (MAX * 1000000L) + " x1");
    }

    private static void groupLeastAndGreatest() {
        Edge two = fresh.after(x -> {
            x.table(0, 2);
            x.group(1, 0, 0, 2, 1);
            x.group(2, 0, 0, 3, 1);
            x.put(0, 1, MAX, 0, 0, 1);
        });
        two.has("8: the least of one", 1, "1 " + MAX + " x1");
        Edge both = two.after(x -> x.put(0, 1, MIN, 0, 0, 7));
        both.has("8: the least int", 1, "1 " + MIN + " x1");
        both.has("8: the greatest int", 2, "1 " + MAX + " x1");
        both.gives("8: the least went", x -> x.put(0, 1, MIN, 0, 0, -7), 1, "1 " + MAX + " x1");
        both.gives("8: the greatest went", x -> x.put(0, 1, MAX, 0, 0, -1), 2, "1 " + MIN + " x1");
        both.gives("8: once less is as great", x -> x.put(0, 1, MIN, 0, 0, -6), 1, "1 " + MIN + " x1");
    }

    private static void drop() {
        for (int r : new int[] {0, 7}) {
            Edge one = fresh.after(x -> x.table(r, 1));
            one.after(x -> x.drop(r)).asks("9: none any more", 0, x -> x.width(r));
            noRelation("9: none any more", one.after(x -> x.drop(r)), r);
        }
        for (int r : NO_PLACES) {
            some.refuses("9: not 0 .. 7", INDEX, x -> x.drop(r));
        }
        some.refuses("9: none", INDEX, x -> x.drop(6));
        some.refuses("9: a table that a view is of", STATE, x -> x.drop(0));
        some.refuses("9: a view that a view is of, on the right", STATE, x -> x.drop(1));
        some.refuses("9: a view that a group is of", STATE, x -> x.drop(4));
        some.accepts("9: the last view", x -> x.drop(5));
        some.accepts("9: a table with rows that no view is of", x -> x.drop(2));
        Edge fewer = some.after(x -> x.drop(5));
        fewer.accepts("9: no view is of it any more", x -> x.drop(4));
        fewer.refuses("9: one view less, one is still there", STATE, x -> x.drop(0));
        Edge onlyOnce = fewer.after(x -> x.drop(4));
        onlyOnce.refuses("9: one of two views is gone", STATE, x -> x.drop(0));
        onlyOnce.after(x -> x.drop(1)).accepts("9: both are gone", x -> x.drop(0));
        Edge twice = fresh.after(x -> {
            x.table(0, 1);
            x.table(1, 1);
            x.join(2, 0, 1, 0, 0);
        });
        twice.refuses("9: on the left", STATE, x -> x.drop(0));
        twice.refuses("9: on the right", STATE, x -> x.drop(1));
        twice.accepts("9: the join itself", x -> x.drop(2));
    }

    private static void putArguments() {
        for (int r : NO_PLACES) {
            noRelation("10: not 0 .. 7", some, r);
            some.refuses("10: it is named before n", INDEX, x -> x.put(r, 1, 3, 0, 0, 0));
        }
        for (int r : new int[] {6, 7}) {
            noRelation("10: none", some, r);
            some.refuses("10: it is named before n", INDEX, x -> x.put(r, 1, 3, 0, 0, 0));
        }
        for (int r : new int[] {1, 4, 5}) {
            some.refuses("10: a view", STATE, x -> x.put(r, 1, 3, 0, 0, 1));
            some.refuses("10: a view is named before n", STATE, x -> x.put(r, 1, 3, 0, 0, 0));
            some.refuses("10: a view is named before not so often", STATE, x -> x.put(r, 9, 9, 0, 0, -1));
        }
        for (int n : new int[] {0, 1000001, -1000001, MIN, MAX, MIN + 1}) {
            some.refuses("10: n is 0 or beyond 1000000", ARGUMENT, x -> x.put(0, 1, 3, 0, 0, n));
            some.refuses("10: of a new row", ARGUMENT, x -> x.put(0, 9, 9, 0, 0, n));
        }
        some.answers("10: n is 1", 6, x -> x.put(0, 1, 3, 0, 0, 1));
        some.answers("10: n is -1", 4, x -> x.put(0, 1, 3, 0, 0, -1));
        some.answers("10: n is 1000000", 1000005, x -> x.put(0, 1, 3, 0, 0, 1000000));
        some.answers("10: n is 1000000, a new row", 1000000, x -> x.put(0, 9, 9, 0, 0, 1000000));
        Edge often = some.after(x -> x.put(0, 1, 3, 0, 0, 1000000));
        often.answers("10: n is -1000000", 5, x -> x.put(0, 1, 3, 0, 0, -1000000));
        often.refuses("10: n is -1000001 of 1000005", ARGUMENT, x -> x.put(0, 1, 3, 0, 0, -1000001));
    }

    private static void putTimes() {
        some.answers("10: as often as it has it", 0, x -> x.put(0, 1, 3, 0, 0, -5));
        some.gives("10: it is no row then", x -> x.put(0, 1, 3, 0, 0, -5), 0, "1 -2 x1 | 2 2 x4 | 3 1 x2");
        some.answers("10: one is left", 1, x -> x.put(0, 1, 3, 0, 0, -4));
        some.gives("10: it is a row then", x -> x.put(0, 1, 3, 0, 0, -4), 0, "1 -2 x1 | 1 3 x1 | 2 2 x4 | 3 1 x2");
        some.refuses("10: it has it not so often", ARGUMENT, x -> x.put(0, 1, 3, 0, 0, -6));
        some.refuses("10: by far not so often", ARGUMENT, x -> x.put(0, 1, 3, 0, 0, -1000000));
        some.refuses("10: it has it not at all", ARGUMENT, x -> x.put(0, 1, 2, 0, 0, -1));
        Edge gone = some.after(x -> x.put(0, 1, 3, 0, 0, -5));
        gone.refuses("10: not any more", ARGUMENT, x -> x.put(0, 1, 3, 0, 0, -1));
        gone.answers("10: again", 1, x -> x.put(0, 1, 3, 0, 0, 1));
        some.gives("10: the first row goes", x -> x.put(0, 1, -2, 0, 0, -1), 0, "1 3 x5 | 2 2 x4 | 3 1 x2");
        some.gives("10: the last row goes", x -> x.put(0, 3, 1, 0, 0, -2), 0, "1 -2 x1 | 1 3 x5 | 2 2 x4");
        some.gives("10: before the first", x -> x.put(0, 1, -3, 0, 0, 1), 0,
            "1 -3 x1 | 1 -2 x1 | 1 3 x5 | 2 2 x4 | 3 1 x2");
        some.gives("10: behind the last", x -> x.put(0, 3, 2, 0, 0, 1), 0,
            "1 -2 x1 | 1 3 x5 | 2 2 x4 | 3 1 x2 | 3 2 x1");
        some.gives("10: the only row goes", x -> x.put(3, 7, 0, 0, 0, -1), 3, "");
        some.after(x -> x.put(3, 7, 0, 0, 0, -1)).refuses("10: of no rows", ARGUMENT, x -> x.put(3, 7, 0, 0, 0, -1));
    }

    private static void putColumns() {
        for (int columns : WIDTHS) {
            int r = columns - 1;
            int[][] oneOff = {{2, 2, 3, 4}, {1, 3, 3, 4}, {1, 2, 4, 4}, {1, 2, 3, 5}};
            for (int i = 0; i < 4; i++) {
                int[] row = oneOff[i];
                boolean matters = i < columns;
                wide.answers("10: column " + i, matters ? 1 : columns + 1,
                    x -> x.put(r, row[0], row[1], row[2], row[3], 1));
                if (matters) {
                    wide.refuses("10: another row", ARGUMENT, x -> x.put(r, row[0], row[1], row[2], row[3], -1));
                } else {
                    wide.answers("10: does not matter", columns - 1,
                        x -> x.put(r, row[0], row[1], row[2], row[3], -1));
                }
                wide.asks("15: column " + i, matters ? 0 : columns,
                    x -> x.times(r, row[0], row[1], row[2], row[3]));
            }
            wide.asks("15: columns that it has not", columns,
                x -> x.times(r, 1, r < 1 ? MIN : 2, r < 2 ? MAX : 3, r < 3 ? -1 : 4));
        }
        Edge far = fresh.after(x -> {
            x.table(0, 2);
            for (int value : new int[] {0, MAX, MIN, -1, 1}) {
                x.put(0, value, 0, 0, 0, 1);
                x.put(0, 0, value, 0, 0, 1);
            }
        });
        far.has("rows stand by their first column, then the second one", 0, MIN + " 0 x1 | -1 0 x1 | 0 " + MIN
            + " x1 | 0 -1 x1 | 0 0 x2 | 0 1 x1 | 0 " + MAX + " x1 | 1 0 x1 | " + MAX + " 0 x1");
    }

    private static void fillArguments() {
        for (int r : NO_PLACES) {
            some.refuses("11: not 0 .. 7 is named before n", INDEX, x -> x.fill(r, 0, 0, 0, 0, 0));
        }
        some.refuses("11: none is named before n", INDEX, x -> x.fill(6, 0, 0, 0, 0, 41));
        for (int r : new int[] {1, 4, 5}) {
            some.refuses("11: a view", STATE, x -> x.fill(r, 0, 0, 0, 0, 1));
            some.refuses("11: a view is named before n", STATE, x -> x.fill(r, 0, 0, 0, 0, 0));
            some.refuses("11: a view is named before n", STATE, x -> x.fill(r, 0, 0, 0, 0, 41));
        }
        for (int n : new int[] {0, 41, -1, MIN, MAX}) {
            some.refuses("11: n is not 1 .. 40", ARGUMENT, x -> x.fill(0, 1, 0, 3, 0, n));
        }
        some.answers("11: n is 1, a row that is there", 4, x -> x.fill(0, 1, 9, 3, 9, 1));
        some.answers("11: n is 1, a new row", 5, x -> x.fill(0, 8, 9, 8, 9, 1));
        Edge one = some.after(x -> x.fill(0, 1, 9, 3, 9, 1));
        one.has("11: n is 1, once more", 0, "1 -2 x1 | 1 3 x6 | 2 2 x4 | 3 1 x2");
        some.answers("11: n is 40", 4, x -> x.fill(0, 1, 0, 3, 0, 40));
        some.gives("11: n is 40, all the same", x -> x.fill(0, 1, 0, 3, 0, 40), 0,
            "1 -2 x1 | 1 3 x45 | 2 2 x4 | 3 1 x2");
        some.gives("11: views get all of it", x -> x.fill(0, 1, 0, 3, 0, 40), 4,
            "1 -2 x2 | 1 3 x46 | 2 2 x5 | 3 1 x3");
    }

    private static void fillWraps() {
        Edge four = fresh.after(x -> x.table(0, 4));
        four.gives("11: the last before it wraps", x -> x.fill(0, MAX - 1, 1, 0, 0, 2), 0,
            (MAX - 1) + " 0 0 0 x1 | " + MAX + " 0 0 0 x1");
        four.gives("11: a wraps", x -> x.fill(0, MAX - 1, 1, 0, 0, 3), 0,
            MIN + " 0 0 0 x1 | " + (MAX - 1) + " 0 0 0 x1 | " + MAX + " 0 0 0 x1");
        four.gives("11: b wraps", x -> x.fill(0, 0, 0, MIN, -1, 2), 0,
            "0 " + MIN + " 0 0 x1 | 0 " + MAX + " 0 0 x1");
        four.gives("11: a step of the least int comes back", x -> x.fill(0, 5, MIN, 0, 0, 40), 0,
            (MIN + 5) + " 0 0 0 x20 | 5 0 0 0 x20");
        four.gives("11: quarters come back", x -> x.fill(0, 0, 1 << 30, 0, 0, 8), 0,
            MIN + " 0 0 0 x2 | " + (MIN + (1 << 30)) + " 0 0 0 x2 | 0 0 0 0 x2 | " + (1 << 30) + " 0 0 0 x2");
        four.gives("11: both wrap", x -> x.fill(0, MAX, MAX, MIN, MIN, 3), 0,
            "-2 0 0 0 x1 | " + (MAX - 2) + " " + MIN + " 0 0 x1 | " + MAX + " " + MIN + " 0 0 x1");
        Edge one = fresh.after(x -> x.table(0, 1));
        one.answers("11: b does not matter to 1 column", 1, x -> x.fill(0, 5, 0, 0, 1, 40));
        Edge two = fresh.after(x -> x.table(0, 2));
        two.answers("11: b matters to 2", 20, x -> x.fill(0, 5, 0, 0, 1, 20));
        Edge three = fresh.after(x -> x.table(0, 3));
        three.gives("11: the third is 0", x -> x.fill(0, 5, 1, 6, 1, 1), 0, "5 6 0 x1");
    }

    private static void width() {
        for (int columns : WIDTHS) {
            wide.asks("12: columns", columns, x -> x.width(columns - 1));
        }
        wide.asks("12: none", 0, x -> x.width(4));
        wide.asks("12: the last place", 0, x -> x.width(7));
        for (int r : NO_PLACES) {
            wide.refuses("12: not 0 .. 7", INDEX, x -> x.width(r));
        }
    }

    private static void rowsAndSize() {
        Edge empty = fresh.after(x -> x.table(7, 1));
        empty.asks("13: no rows", 0, x -> x.rows(7));
        empty.asks("14: no times", 0, x -> x.size(7));
        Edge one = empty.after(x -> x.put(7, 5, 0, 0, 0, 1));
        one.asks("13: one row", 1, x -> x.rows(7));
        one.asks("14: once", 1, x -> x.size(7));
        Edge twice = one.after(x -> x.put(7, 5, 0, 0, 0, 1));
        twice.asks("13: one row twice", 1, x -> x.rows(7));
        twice.asks("14: twice", 2, x -> x.size(7));
        Edge two = one.after(x -> x.put(7, 6, 0, 0, 0, 1));
        two.asks("13: two rows", 2, x -> x.rows(7));
        two.asks("14: one and one", 2, x -> x.size(7));
        Edge gone = one.after(x -> x.put(7, 5, 0, 0, 0, -1));
        gone.asks("13: no rows again", 0, x -> x.rows(7));
        gone.asks("14: no times again", 0, x -> x.size(7));
        for (int r : new int[] {-1, 8, MIN, MAX, 0, 6}) {
            one.refuses("13: no such relation", INDEX, x -> x.rows(r));
            one.refuses("14: no such relation", INDEX, x -> x.size(r));
        }
    }

    private static void times() {
        some.asks("15: a row", 5, x -> x.times(0, 1, 3, 0, 0));
        some.asks("15: next to it", 0, x -> x.times(0, 1, 2, 0, 0));
        some.asks("15: next to it", 0, x -> x.times(0, 1, 4, 0, 0));
        some.asks("15: before the first", 0, x -> x.times(0, 1, -3, 0, 0));
        some.asks("15: behind the last", 0, x -> x.times(0, 3, 2, 0, 0));
        some.asks("15: the first", 1, x -> x.times(0, 1, -2, 0, 0));
        some.asks("15: the last", 2, x -> x.times(0, 3, 1, 0, 0));
        some.asks("15: a view", 6, x -> x.times(4, 1, 3, MAX, MIN));
        fresh.after(x -> x.table(0, 4)).asks("15: of no rows", 0, x -> x.times(0, 0, 0, 0, 0));
        for (int r : new int[] {-1, 8, MIN, MAX, 6, 7}) {
            some.refuses("15: no such relation", INDEX, x -> x.times(r, 1, 3, 0, 0));
        }
    }

    private static void cell() {
        for (int columns : WIDTHS) {
            int r = columns - 1;
            for (int i = 0; i < columns; i++) {
                int column = i;
                wide.asks("16: a column", i + 1, x -> x.cell(r, 0, column));
            }
            wide.asks("16: its times", columns, x -> x.cell(r, 0, columns));
            for (int column : new int[] {-1, columns + 1, MIN, MAX}) {
                wide.refuses("16: no such column", INDEX, x -> x.cell(r, 0, column));
            }
            for (int k : new int[] {-1, 1, MIN, MAX}) {
                wide.refuses("16: no such row", INDEX, x -> x.cell(r, k, 0));
                wide.refuses("16: no such row's times", INDEX, x -> x.cell(r, k, columns));
                wide.refuses("16: no such row nor column", INDEX, x -> x.cell(r, k, columns + 1));
            }
        }
        some.asks("16: the first row", -2, x -> x.cell(0, 0, 1));
        some.asks("16: the last row", 1, x -> x.cell(0, 3, 1));
        some.refuses("16: behind the last row", INDEX, x -> x.cell(0, 4, 1));
        some.asks("16: a view's last row", 3, x -> x.cell(5, 2, 1));
        some.refuses("16: behind a view's last row", INDEX, x -> x.cell(5, 3, 1));
        fresh.after(x -> x.table(0, 1)).refuses("16: of no rows", INDEX, x -> x.cell(0, 0, 0));
        Edge gone = some.after(x -> x.put(0, 3, 1, 0, 0, -2));
        gone.refuses("16: a row that went", INDEX, x -> x.cell(0, 3, 0));
        gone.refuses("16: a view's row that went", INDEX, x -> x.cell(4, 3, 0));
        for (int r : new int[] {-1, 8, MIN, MAX, 6, 7}) {
            some.refuses("16: no such relation", INDEX, x -> x.cell(r, 0, 0));
        }
    }

    private static void changed() {
        fresh.after(x -> x.table(0, 1)).asks("17: no put yet", 0, x -> x.changed(0));
        int[] want = {1, 1, 0, 0, 1, 2};
        for (int i = 0; i < want.length; i++) {
            int r = i;
            some.asks("17: relation " + i, want[i], x -> x.changed(r));
            some.after(x -> x.put(2, 9, 9, 9, 9, 1)).asks("17: a put elsewhere", r == 2 ? 1 : 0, x -> x.changed(r));
            some.after(x -> {
                refused(() -> x.put(2, 9, 9, 9, 9, 0));
                refused(() -> x.put(0, 9, 9, 9, 9, -1));
                refused(() -> x.put(1, 9, 9, 9, 9, 1));
                refused(() -> x.fill(2, 0, 1, 0, 0, 21));
                refused(() -> x.fill(0, 0, 1, 0, 0, 41));
            }).asks("17: refused ones do not count", want[i], x -> x.changed(r));
        }
        some.after(x -> x.fill(3, 7, 0, 0, 0, 40)).asks("17: 40 times one row", 1, x -> x.changed(3));
        some.after(x -> x.fill(3, 0, 1, 0, 0, 19)).asks("17: 19 rows", 19, x -> x.changed(3));
        Edge once = some.after(x -> x.put(0, 1, 3, 0, 0, -4));
        once.asks("17: once has it as before", 0, x -> x.changed(1));
        some.after(x -> x.put(0, 1, 3, 0, 0, -5)).asks("17: once has it not any more", 1, x -> x.changed(1));
        some.after(x -> x.put(0, 1, 3, 0, 0, -5)).asks("17: a group has another row", 2, x -> x.changed(5));
        some.after(x -> x.put(0, 3, 1, 0, 0, -2)).asks("17: a group has a row less", 1, x -> x.changed(5));
        some.after(x -> x.put(0, 9, 9, 0, 0, 1)).asks("17: a group has a row more", 1, x -> x.changed(5));
        some.after(x -> {
            x.drop(5);
            x.group(5, 4, 0, 1, 1);
        }).asks("17: made since", 0, x -> x.changed(5));
        some.after(x -> x.once(6, 0)).asks("17: a view made since", 0, x -> x.changed(6));
        some.after(x -> x.once(6, 0)).asks("17: its source was changed before", 1, x -> x.changed(0));
        some.after(x -> x.table(6, 1)).asks("17: a table made since", 0, x -> x.changed(6));
        some.after(x -> x.drop(5)).asks("17: drop changes no times", 1, x -> x.changed(4));
        for (int r : new int[] {-1, 8, MIN, MAX, 6, 7}) {
            some.refuses("17: no such relation", INDEX, x -> x.changed(r));
        }
    }

    private static void refused(Runnable call) {
        due.holds("17: refused", !Due.said(() -> {
            call.run();
            return 0;
        }).equals("0"));
    }

    private static void count() {
        for (int what : new int[] {-1, 3, MIN, MAX}) {
            some.refuses("18: none of these", ARGUMENT, x -> x.count(what));
            fresh.refuses("18: none of these", ARGUMENT, x -> x.count(what));
        }
        some.asks("18: relations", 6, x -> x.count(0));
        some.asks("18: tables", 3, x -> x.count(1));
        some.asks("18: rows", 4 + 4 + 1 + 1 + 4 + 3, x -> x.count(2));
        Edge full = fresh.after(x -> {
            x.table(0, 1);
            x.fill(0, 0, 1, 0, 0, 20);
            for (int v = 1; v < 8; v++) {
                x.both(v, v - 1, 0, false);
            }
        });
        full.asks("18: all 8 relations", 8, x -> x.count(0));
        full.asks("18: one table of 8", 1, x -> x.count(1));
        full.asks("18: 20 rows in each", 160, x -> x.count(2));
        Edge tables = fresh.after(x -> {
            for (int r = 0; r < 8; r++) {
                x.table(r, 1);
            }
        });
        tables.asks("18: 8 tables", 8, x -> x.count(1));
        tables.asks("18: without rows", 0, x -> x.count(2));
        tables.refuses("2: no place is left", STATE, x -> x.table(7, 1));
    }

    /** Where all would do, the one named first; each is named once the ones before it are mended. */
    private static void order() {
        some.refuses("3: all wrong", INDEX, x -> x.select(5, 0, 2, 6, 0, false));
        some.refuses("3: there, and comparison", STATE, x -> x.select(5, 0, 1, 6, 0, false));
        some.refuses("3: comparison", ARGUMENT, x -> x.select(6, 0, 1, 6, 0, false));
        some.accepts("3: nothing wrong", x -> x.select(6, 0, 1, 5, 0, false));
        some.refuses("4: all wrong", INDEX, x -> x.columns(5, 0, NONE, 2, NONE, NONE));
        some.refuses("4: there, and behind NONE", STATE, x -> x.columns(5, 0, NONE, 1, NONE, NONE));
        some.refuses("4: behind NONE", ARGUMENT, x -> x.columns(6, 0, NONE, 1, NONE, NONE));
        some.accepts("4: nothing wrong", x -> x.columns(6, 0, 1, NONE, NONE, NONE));
        some.refuses("5: all wrong", INDEX, x -> x.join(5, 0, 2, 0, 3));
        some.refuses("5: there, and columns", STATE, x -> x.join(5, 0, 2, 0, 2));
        some.refuses("5: columns", ARGUMENT, x -> x.join(6, 0, 2, 0, 2));
        some.accepts("5: nothing wrong", x -> x.join(6, 3, 2, 0, 2));
        some.refuses("6: all wrong", INDEX, x -> x.both(5, 6, 2, true));
        some.refuses("6: there, and columns", STATE, x -> x.both(5, 0, 2, true));
        some.refuses("6: columns", ARGUMENT, x -> x.both(6, 0, 2, true));
        some.accepts("6: nothing wrong", x -> x.both(6, 0, 1, true));
        some.refuses("8: all wrong", INDEX, x -> x.group(5, 0, 2, 4, 0));
        some.refuses("8: there, and sort", STATE, x -> x.group(5, 0, NONE, 4, 0));
        some.refuses("8: sort", ARGUMENT, x -> x.group(6, 0, NONE, 4, 0));
        some.accepts("8: nothing wrong", x -> x.group(6, 0, NONE, 3, 0));
    }

    /** An object is used for at most 512 calls: the 512th still answers as promised. */
    private static void lastCall() {
        BagViews x = new BagViews();
        x.table(0, 1);
        x.table(1, 1);
        x.join(2, 0, 1, 0, 0);
        x.put(1, 5, 0, 0, 0, 1);
        for (int calls = 4; calls < 509; calls++) {
            x.put(0, 5, 0, 0, 0, 1000000);
        }
        due.answer("10: the 510th call", 506000000, () -> x.put(0, 5, 0, 0, 0, 1000000));
        due.answer("15: the 511th call", 506000000, () -> x.times(2, 5, 5, 0, 0));
        due.answer("10: the 512th call", 505000000, () -> x.put(0, 5, 0, 0, 0, -1000000));
    }

    private BoundaryTest() {
    }
}
