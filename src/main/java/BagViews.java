/**
 * Tables of rows that stand in them a number of times, and views over them and over one another.
 * A put or fill makes the views that it touches anew beside the old ones, and takes all of them
 * over together only when every one of them keeps to the bounds.
 */
public final class BagViews {
    public static final int NONE = -1;

    private static final int RELATIONS = 8;
    private static final int MOST_COLUMNS = 4;
    private static final int MOST_ROWS = 20;
    private static final int MOST_TIMES = 1000000000;
    private static final int MOST_PUT = 1000000;
    private static final int MOST_FILL = 40;

    private static final int EQUAL = 0;
    private static final int NOT_EQUAL = 1;
    private static final int LESS = 2;
    private static final int NOT_LESS = 3;
    private static final int GREATER = 4;
    private static final int NOT_GREATER = 5;

    private static final int HOW_MANY = 0;
    private static final int SUM = 1;
    private static final int LEAST = 2;
    private static final int GREATEST = 3;

    private static final int ALL_RELATIONS = 0;
    private static final int ALL_TABLES = 1;
    private static final int ALL_ROWS = 2;

    private final Relation[] relations = new Relation[RELATIONS];
    /** The row that a call tells, kept here so that no call makes one. */
    private final int[] told = new int[MOST_COLUMNS];

    public BagViews() {
        for (int r = 0; r < RELATIONS; r++) {
            relations[r] = new Relation();
        }
    }

    public void table(int r, int columns)
            throws IndexOutOfBoundsException, IllegalStateException, IllegalArgumentException {
        Relation made = placeAt(r);
        needFree(made);
        if (columns < 1 || columns > MOST_COLUMNS) {
            throw new IllegalArgumentException("a table has 1 to 4 columns");
        }
        made.now.clear();
        made.begin(columns, null);
    }

    public void select(int v, int of, int c, int compare, int x, boolean other)
            throws IndexOutOfBoundsException, IllegalStateException, IllegalArgumentException,
            UnsupportedOperationException {
        Relation made = placeAt(v);
        Relation source = relationAt(of);
        needColumn(source, c);
        if (other) {
            needColumn(source, x);
        }
        needFree(made);
        if (compare < EQUAL || compare > NOT_GREATER) {
            throw new IllegalArgumentException("there is no such comparison");
        }
        makeView(made, source.columnCount, new Selection(source, c, compare, x, other));
    }

    public void columns(int v, int of, int a, int b, int c, int d)
            throws IndexOutOfBoundsException, IllegalStateException, IllegalArgumentException,
            UnsupportedOperationException {
        Relation made = placeAt(v);
        Relation source = relationAt(of);
        needColumnOrNone(source, a);
        needColumnOrNone(source, b);
        needColumnOrNone(source, c);
        needColumnOrNone(source, d);
        needFree(made);
        int[] chosen = {a, b, c, d};
        makeView(made, countChosen(chosen), new Choice(source, chosen));
    }

    public void join(int v, int left, int right, int c, int d)
            throws IndexOutOfBoundsException, IllegalStateException, IllegalArgumentException,
            UnsupportedOperationException {
        Relation made = placeAt(v);
        Relation leftSource = relationAt(left);
        Relation rightSource = relationAt(right);
        needColumn(leftSource, c);
        needColumn(rightSource, d);
        needFree(made);
        int together = leftSource.columnCount + rightSource.columnCount;
        if (together > MOST_COLUMNS) {
            throw new IllegalArgumentException("a join has at most 4 columns");
        }
        makeView(made, together, new Join(leftSource, rightSource, c, d));
    }

    public void both(int v, int left, int right, boolean less)
            throws IndexOutOfBoundsException, IllegalStateException, IllegalArgumentException,
            UnsupportedOperationException {
        Relation made = placeAt(v);
        Relation leftSource = relationAt(left);
        Relation rightSource = relationAt(right);
        needFree(made);
        if (leftSource.columnCount != rightSource.columnCount) {
            throw new IllegalArgumentException("they have not as many columns");
        }
        View view = less ? new Difference(leftSource, rightSource) : new Union(leftSource, rightSource);
        makeView(made, leftSource.columnCount, view);
    }

    public void once(int v, int of)
            throws IndexOutOfBoundsException, IllegalStateException, UnsupportedOperationException {
        Relation made = placeAt(v);
        Relation source = relationAt(of);
        needFree(made);
        makeView(made, source.columnCount, new Once(source));
    }

    public void group(int v, int of, int by, int sort, int c)
            throws IndexOutOfBoundsException, IllegalStateException, IllegalArgumentException,
            UnsupportedOperationException {
        Relation made = placeAt(v);
        Relation source = relationAt(of);
        needColumnOrNone(source, by);
        needColumn(source, c);
        needFree(made);
        if (sort < HOW_MANY || sort > GREATEST) {
            throw new IllegalArgumentException("there is no such sort");
        }
        makeView(made, by == NONE ? 1 : 2, new Group(source, by, sort, c));
    }

    public void drop(int r) throws IndexOutOfBoundsException, IllegalStateException {
        Relation dropped = relationAt(r);
        for (Relation relation : relations) {
            if (relation.isOf(dropped)) {
                throw new IllegalStateException("a view is of it");
            }
        }
        dropped.end();
    }

    public int put(int r, int a, int b, int c, int d, int n)
            throws IndexOutOfBoundsException, IllegalStateException, IllegalArgumentException,
            UnsupportedOperationException {
        Relation table = tableAt(r);
        if (n == 0 || n < -MOST_PUT || n > MOST_PUT) {
            throw new IllegalArgumentException("n is 0, or beyond 1000000 either way");
        }
        tell(table, a, b, c, d);
        int had = table.now.timesOf(told);
        if (had + n < 0) {
            throw new IllegalArgumentException("the table has the row not so often");
        }
        table.next.copyFrom(table.now);
        takeOver(table.next.add(told, n) && viewsFit(table));
        return had + n;
    }

    public int fill(int r, int a, int step, int b, int other, int n)
            throws IndexOutOfBoundsException, IllegalStateException, IllegalArgumentException,
            UnsupportedOperationException {
        Relation table = tableAt(r);
        if (n < 1 || n > MOST_FILL) {
            throw new IllegalArgumentException("n is not 1 to 40");
        }
        table.next.copyFrom(table.now);
        boolean fits = true;
        for (int i = 0; i < n && fits; i++) {
            tell(table, a + i * step, b + i * other, 0, 0);
            fits = table.next.add(told, 1);
        }
        takeOver(fits && viewsFit(table));
        return table.now.rowCount;
    }

    public int width(int r) throws IndexOutOfBoundsException {
        return placeAt(r).columnCount;
    }

    public int rows(int r) throws IndexOutOfBoundsException {
        return relationAt(r).now.rowCount;
    }

    public long size(int r) throws IndexOutOfBoundsException {
        return relationAt(r).now.allTimes();
    }

    public int times(int r, int a, int b, int c, int d) throws IndexOutOfBoundsException {
        Relation relation = relationAt(r);
        tell(relation, a, b, c, d);
        return relation.now.timesOf(told);
    }

    public int cell(int r, int k, int column) throws IndexOutOfBoundsException {
        Relation relation = relationAt(r);
        if (k < 0 || k >= relation.now.rowCount) {
            throw new IndexOutOfBoundsException("there is no such row");
        }
        if (column == relation.columnCount) {
            return relation.now.often[k];
        }
        needColumn(relation, column);
        return relation.now.cellAt(k, column);
    }

    public int changed(int r) throws IndexOutOfBoundsException {
        return relationAt(r).changedRows;
    }

    public int count(int what) throws IllegalArgumentException {
        if (what < ALL_RELATIONS || what > ALL_ROWS) {
            throw new IllegalArgumentException("there is nothing such to count");
        }
        int counted = 0;
        for (Relation relation : relations) {
            if (relation.isThere()) {
                counted += countIn(relation, what);
            }
        }
        return counted;
    }

    private static int countIn(Relation relation, int what) {
        switch (what) {
            case ALL_RELATIONS:
                return 1;
            case ALL_TABLES:
                return relation.view == null ? 1 : 0;
            default:
                return relation.now.rowCount;
        }
    }

    private Relation placeAt(int r) {
        if (r < 0 || r >= RELATIONS) {
            throw new IndexOutOfBoundsException("relations are 0 to 7");
        }
        return relations[r];
    }

    private Relation relationAt(int r) {
        Relation relation = placeAt(r);
        if (!relation.isThere()) {
            throw new IndexOutOfBoundsException("there is no such relation");
        }
        return relation;
    }

    private Relation tableAt(int r) {
        Relation relation = relationAt(r);
        if (relation.view != null) {
            throw new IllegalStateException("it is a view");
        }
        return relation;
    }

    private static void needFree(Relation made) {
        if (made.isThere()) {
            throw new IllegalStateException("the relation that is to be made is there");
        }
    }

    private static void needColumn(Relation relation, int column) {
        if (column < 0 || column >= relation.columnCount) {
            throw new IndexOutOfBoundsException("there is no such column");
        }
    }

    private static void needColumnOrNone(Relation relation, int column) {
        if (column != NONE) {
            needColumn(relation, column);
        }
    }

    private static int countChosen(int[] chosen) {
        int wanted = 0;
        while (wanted < chosen.length && chosen[wanted] != NONE) {
            wanted++;
        }
        if (wanted == 0) {
            throw new IllegalArgumentException("no column at all");
        }
        for (int i = wanted; i < chosen.length; i++) {
            if (chosen[i] != NONE) {
                throw new IllegalArgumentException("a column behind NONE");
            }
        }
        return wanted;
    }

    private static void makeView(Relation made, int columns, View view) {
        made.now.clear();
        if (!view.makeInto(made.now)) {
            throw new UnsupportedOperationException("the view would be beyond the bounds");
        }
        made.begin(columns, view);
    }

    /** Columns that the relation has not become 0, so that rows compare by all their cells. */
    private void tell(Relation relation, int a, int b, int c, int d) {
        told[0] = a;
        told[1] = relation.columnCount > 1 ? b : 0;
        told[2] = relation.columnCount > 2 ? c : 0;
        told[3] = relation.columnCount > 3 ? d : 0;
    }

    /** A view is deeper than what it is of, so each depth finds those above it made already. */
    private boolean viewsFit(Relation table) {
        table.pending = table.next.countDifferent(table.now);
        for (int depth = 1; depth < RELATIONS; depth++) {
            for (Relation relation : relations) {
                if (relation.depth() == depth && !relation.remake()) {
                    return false;
                }
            }
        }
        return true;
    }

    private void takeOver(boolean fits) {
        for (Relation relation : relations) {
            relation.settle(fits);
        }
        if (!fits) {
            throw new UnsupportedOperationException("a relation would be beyond the bounds");
        }
    }

    /** Rows in their order, each with its times; cells of columns that there are not are 0. */
    private static final class Bag {
        private final int[] cells = new int[MOST_ROWS * MOST_COLUMNS];
        private final int[] often = new int[MOST_ROWS];
        private int rowCount;

        void clear() {
            rowCount = 0;
        }

        void copyFrom(Bag other) {
            System.arraycopy(other.cells, 0, cells, 0, cells.length);
            System.arraycopy(other.often, 0, often, 0, often.length);
            rowCount = other.rowCount;
        }

        int cellAt(int k, int column) {
            return cells[k * MOST_COLUMNS + column];
        }

        void readRow(int k, int[] row) {
            System.arraycopy(cells, k * MOST_COLUMNS, row, 0, MOST_COLUMNS);
        }

        long allTimes() {
            long all = 0;
            for (int k = 0; k < rowCount; k++) {
                all += often[k];
            }
            return all;
        }

        int timesOf(int[] row) {
            int place = placeBehind(row);
            return isAt(place - 1, row) ? often[place - 1] : 0;
        }

        /** False, with nothing done, where the row or the bag would be beyond a bound. */
        boolean add(int[] row, long n) {
            int place = placeBehind(row);
            if (isAt(place - 1, row)) {
                return setTimes(place - 1, often[place - 1] + n);
            }
            return n <= 0 || insert(place, row, n);
        }

        int countDifferent(Bag other) {
            int different = 0;
            int i = 0;
            int j = 0;
            while (i < rowCount && j < other.rowCount) {
                int order = compareRow(i, other.cells, j * MOST_COLUMNS);
                if (order != 0 || often[i] != other.often[j]) {
                    different++;
                }
                if (order <= 0) {
                    i++;
                }
                if (order >= 0) {
                    j++;
                }
            }
            return different + (rowCount - i) + (other.rowCount - j);
        }

        /** From the end, since views mostly get their rows in order. */
        private int placeBehind(int[] row) {
            int place = rowCount;
            while (place > 0 && compareRow(place - 1, row, 0) > 0) {
                place--;
            }
            return place;
        }

        private boolean isAt(int k, int[] row) {
            return k >= 0 && compareRow(k, row, 0) == 0;
        }

        private int compareRow(int k, int[] others, int from) {
            for (int column = 0; column < MOST_COLUMNS; column++) {
                int mine = cells[k * MOST_COLUMNS + column];
                int theirs = others[from + column];
                if (mine != theirs) {
                    return mine < theirs ? -1 : 1;
                }
            }
            return 0;
        }

        private boolean setTimes(int k, long n) {
            if (n > MOST_TIMES) {
                return false;
            }
            if (n <= 0) {
                remove(k);
            } else {
                often[k] = (int) n;
            }
            return true;
        }

        private boolean insert(int place, int[] row, long n) {
            if (rowCount >= MOST_ROWS || n > MOST_TIMES) {
                return false;
            }
            int behind = rowCount - place;
            int from = place * MOST_COLUMNS;
            System.arraycopy(cells, from, cells, from + MOST_COLUMNS, behind * MOST_COLUMNS);
            System.arraycopy(often, place, often, place + 1, behind);
            System.arraycopy(row, 0, cells, from, MOST_COLUMNS);
            often[place] = (int) n;
            rowCount++;
            return true;
        }

        private void remove(int k) {
            int behind = rowCount - k - 1;
            int to = k * MOST_COLUMNS;
            System.arraycopy(cells, to + MOST_COLUMNS, cells, to, behind * MOST_COLUMNS);
            System.arraycopy(often, k + 1, often, k, behind);
            rowCount--;
        }
    }

    /** A table (its view is null), a view, or none (it has no columns). */
    private static final class Relation {
        private Bag now = new Bag();
        private Bag next = new Bag();
        private View view = null;
        private int columnCount = 0;
        /** In how many rows next differs from now; 0 while next is not in use. */
        private int pending = 0;
        private int changedRows = 0;

        void begin(int columns, View madeAs) {
            columnCount = columns;
            view = madeAs;
            changedRows = 0;
        }

        void end() {
            columnCount = 0;
            view = null;
        }

        boolean isThere() {
            return columnCount > 0;
        }

        boolean isOf(Relation source) {
            return view != null && (view.left == source || view.right == source);
        }

        int depth() {
            return view == null ? 0 : view.depth;
        }

        Bag latest() {
            return pending > 0 ? next : now;
        }

        boolean remake() {
            if (view == null || !view.isTouched()) {
                return true;
            }
            next.clear();
            if (!view.makeInto(next)) {
                return false;
            }
            pending = next.countDifferent(now);
            return true;
        }

        void settle(boolean fits) {
            if (fits) {
                changedRows = pending;
            }
            if (fits && pending > 0) {
                Bag old = now;
                now = next;
                next = old;
            }
            pending = 0;
        }
    }

    /** How a view is made from one relation, which is then left and right, or from two. */
    private abstract static class View {
        final Relation left;
        final Relation right;
        final int depth;
        final int[] row = new int[MOST_COLUMNS];

        View(Relation left, Relation right) {
            this.left = left;
            this.right = right;
            this.depth = 1 + Math.max(left.depth(), right.depth());
        }

        boolean isTouched() {
            return left.pending > 0 || right.pending > 0;
        }

        /** Adds its rows to an empty bag; false where they would be beyond the bounds. */
        abstract boolean makeInto(Bag into);
    }

    private static final class Selection extends View {
        private final int column;
        private final int compare;
        private final int than;
        private final boolean thanColumn;

        Selection(Relation of, int column, int compare, int than, boolean thanColumn) {
            super(of, of);
            this.column = column;
            this.compare = compare;
            this.than = than;
            this.thanColumn = thanColumn;
        }

        boolean makeInto(Bag into) {
            Bag of = left.latest();
            boolean fits = true;
            for (int k = 0; k < of.rowCount && fits; k++) {
                int against = thanColumn ? of.cellAt(k, than) : than;
                if (holds(of.cellAt(k, column), against)) {
                    of.readRow(k, row);
                    fits = into.add(row, of.often[k]);
                }
            }
            return fits;
        }

        private boolean holds(int value, int against) {
            switch (compare) {
                case EQUAL:
                    return value == against;
                case NOT_EQUAL:
                    return value != against;
                case LESS:
                    return value < against;
                case NOT_LESS:
                    return value >= against;
                case GREATER:
                    return value > against;
                default:
                    return value <= against;
            }
        }
    }

    private static final class Choice extends View {
        private final int[] chosen;

        Choice(Relation of, int[] chosen) {
            super(of, of);
            this.chosen = chosen;
        }

        boolean makeInto(Bag into) {
            Bag of = left.latest();
            boolean fits = true;
            for (int k = 0; k < of.rowCount && fits; k++) {
                for (int i = 0; i < MOST_COLUMNS; i++) {
                    row[i] = chosen[i] == NONE ? 0 : of.cellAt(k, chosen[i]);
                }
                fits = into.add(row, of.often[k]);
            }
            return fits;
        }
    }

    private static final class Join extends View {
        private final int leftColumn;
        private final int rightColumn;

        Join(Relation left, Relation right, int leftColumn, int rightColumn) {
            super(left, right);
            this.leftColumn = leftColumn;
            this.rightColumn = rightColumn;
        }

        boolean makeInto(Bag into) {
            Bag lefts = left.latest();
            Bag rights = right.latest();
            for (int i = 0; i < lefts.rowCount; i++) {
                for (int j = 0; j < rights.rowCount; j++) {
                    if (lefts.cellAt(i, leftColumn) == rights.cellAt(j, rightColumn)) {
                        readPair(lefts, i, rights, j);
                        if (!into.add(row, (long) lefts.often[i] * rights.often[j])) {
                            return false;
                        }
                    }
                }
            }
            return true;
        }

        private void readPair(Bag lefts, int i, Bag rights, int j) {
            lefts.readRow(i, row);
            for (int at = left.columnCount; at < MOST_COLUMNS; at++) {
                row[at] = rights.cellAt(j, at - left.columnCount);
            }
        }
    }

    private static final class Union extends View {
        Union(Relation left, Relation right) {
            super(left, right);
        }

        boolean makeInto(Bag into) {
            into.copyFrom(left.latest());
            Bag rights = right.latest();
            boolean fits = true;
            for (int k = 0; k < rights.rowCount && fits; k++) {
                rights.readRow(k, row);
                fits = into.add(row, rights.often[k]);
            }
            return fits;
        }
    }

    private static final class Difference extends View {
        Difference(Relation left, Relation right) {
            super(left, right);
        }

        boolean makeInto(Bag into) {
            Bag lefts = left.latest();
            Bag rights = right.latest();
            boolean fits = true;
            for (int k = 0; k < lefts.rowCount && fits; k++) {
                lefts.readRow(k, row);
                fits = into.add(row, lefts.often[k] - rights.timesOf(row));
            }
            return fits;
        }
    }

    private static final class Once extends View {
        Once(Relation of) {
            super(of, of);
        }

        boolean makeInto(Bag into) {
            Bag of = left.latest();
            boolean fits = true;
            for (int k = 0; k < of.rowCount && fits; k++) {
                of.readRow(k, row);
                fits = into.add(row, 1);
            }
            return fits;
        }
    }

    private static final class Group extends View {
        private final int by;
        private final int sort;
        private final int column;

        Group(Relation of, int by, int sort, int column) {
            super(of, of);
            this.by = by;
            this.sort = sort;
            this.column = column;
        }

        boolean makeInto(Bag into) {
            Bag of = left.latest();
            boolean fits = true;
            for (int k = 0; k < of.rowCount && fits; k++) {
                if (isFirst(of, k)) {
                    row[0] = by == NONE ? 0 : of.cellAt(k, by);
                    row[by == NONE ? 0 : 1] = valueFrom(of, k);
                    fits = into.add(row, 1);
                }
            }
            return fits;
        }

        private boolean isFirst(Bag of, int k) {
            for (int i = 0; i < k; i++) {
                if (isTogether(of, i, k)) {
                    return false;
                }
            }
            return true;
        }

        private boolean isTogether(Bag of, int i, int k) {
            return by == NONE || of.cellAt(i, by) == of.cellAt(k, by);
        }

        /** Of the group whose first row is k. */
        private int valueFrom(Bag of, int first) {
            int value = sort == HOW_MANY || sort == SUM ? 0 : of.cellAt(first, column);
            for (int k = first; k < of.rowCount; k++) {
                if (isTogether(of, first, k)) {
                    value = withRow(value, of.cellAt(k, column), of.often[k]);
                }
            }
            return value;
        }

        private int withRow(int value, int cell, int often) {
            switch (sort) {
                case HOW_MANY:
                    return value + often;
                case SUM:
                    return value + cell * often;
                case LEAST:
                    return Math.min(value, cell);
                default:
                    return Math.max(value, cell);
            }
        }
    }
}
