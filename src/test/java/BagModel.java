import java.util.ArrayList;
import java.util.Arrays;
import java.util.Collections;
import java.util.List;
import java.util.TreeMap;

/** The document's terms said once more, as plainly as can be: every relation is made anew each time. */
final class BagModel {
    static final int NONE = -1;

    /** Rows by their columns, each with its times. */
    static final class Rows extends TreeMap<List<Integer>, Long> {
        private static final long serialVersionUID = 1L;

        Rows() {
            super((a, b) -> {
                for (int i = 0; i < a.size(); i++) {
                    int order = Integer.compare(a.get(i), b.get(i));
                    if (order != 0) {
                        return order;
                    }
                }
                return 0;
            });
        }

        void more(List<Integer> row, long n) {
            merge(row, n, Long::sum);
        }

        long all() {
            return values().stream().mapToLong(Long::longValue).sum();
        }
    }

    interface Maker {
        Rows make(Rows left, Rows right);
    }

    static final class Relation {
        final int width;
        final Relation left;
        final Relation right;
        final Maker maker;
        Rows table = new Rows();
        int changed = 0;

        Relation(int width, Relation left, Relation right, Maker maker) {
            this.width = width;
            this.left = left;
            this.right = right;
            this.maker = maker;
        }

        Rows rows() {
            Rows made = maker == null ? table : maker.make(left.rows(), right.rows());
            if (made.size() > 20) {
                throw new UnsupportedOperationException();
            }
            for (long times : made.values()) {
                if (times <= 0) {
                    throw new AssertionError("times " + times);
                }
                if (times > 1000000000) {
                    throw new UnsupportedOperationException();
                }
            }
            return made;
        }
    }

    final Relation[] relations = new Relation[8];

    private static void index(boolean right) {
        if (!right) {
            throw new IndexOutOfBoundsException();
        }
    }

    private static void argument(boolean right) {
        if (!right) {
            throw new IllegalArgumentException();
        }
    }

    private static void state(boolean right) {
        if (!right) {
            throw new IllegalStateException();
        }
    }

    private static boolean isPlace(int r) {
        return r >= 0 && r <= 7;
    }

    Relation at(int r) {
        index(isPlace(r) && relations[r] != null);
        return relations[r];
    }

    private static boolean has(Relation of, int column) {
        return column >= 0 && column < of.width;
    }

    private void make(int v, Relation made) {
        made.rows();
        relations[v] = made;
    }

    void table(int r, int columns) {
        index(isPlace(r));
        state(relations[r] == null);
        argument(columns >= 1 && columns <= 4);
        relations[r] = new Relation(columns, null, null, null);
    }

    void select(int v, int of, int c, int compare, int x, boolean other) {
        Relation source = at(of);
        index(isPlace(v) && has(source, c) && (!other || has(source, x)));
        state(relations[v] == null);
        argument(compare >= 0 && compare <= 5);
        make(v, new Relation(source.width, source, source, (rows, same) -> {
            Rows made = new Rows();
            rows.forEach((row, n) -> {
                int order = row.get(c).compareTo(other ? row.get(x) : Integer.valueOf(x));
                boolean plain = compare / 2 == 0 ? order == 0 : compare / 2 == 1 ? order < 0 : order > 0;
                if (plain == (compare % 2 == 0)) {
                    made.more(row, n);
                }
            });
            return made;
        }));
    }

    void columns(int v, int of, int a, int b, int c, int d) {
        Relation source = at(of);
        index(isPlace(v));
        List<Integer> wanted = new ArrayList<>(List.of(a, b, c, d));
        for (int column : wanted) {
            index(column == NONE || has(source, column));
        }
        state(relations[v] == null);
        while (!wanted.isEmpty() && wanted.get(wanted.size() - 1) == NONE) {
            wanted.remove(wanted.size() - 1);
        }
        argument(!wanted.isEmpty() && !wanted.contains(NONE));
        make(v, new Relation(wanted.size(), source, source, (rows, same) -> {
            Rows made = new Rows();
            rows.forEach((row, n) -> made.more(wanted.stream().map(row::get).toList(), n));
            return made;
        }));
    }

    void join(int v, int left, int right, int c, int d) {
        Relation l = at(left);
        Relation r = at(right);
        index(isPlace(v) && has(l, c) && has(r, d));
        state(relations[v] == null);
        argument(l.width + r.width <= 4);
        make(v, new Relation(l.width + r.width, l, r, (lefts, rights) -> {
            Rows made = new Rows();
            lefts.forEach((one, n) -> rights.forEach((two, m) -> {
                if (one.get(c).equals(two.get(d))) {
                    List<Integer> pair = new ArrayList<>(one);
                    pair.addAll(two);
                    made.more(pair, n * m);
                }
            }));
            return made;
        }));
    }

    void both(int v, int left, int right, boolean less) {
        Relation l = at(left);
        Relation r = at(right);
        index(isPlace(v));
        state(relations[v] == null);
        argument(l.width == r.width);
        make(v, new Relation(l.width, l, r, (lefts, rights) -> {
            Rows made = new Rows();
            lefts.forEach(made::more);
            rights.forEach((row, n) -> made.more(row, less ? -n : n));
            made.values().removeIf(n -> n <= 0);
            return made;
        }));
    }

    void once(int v, int of) {
        Relation source = at(of);
        index(isPlace(v));
        state(relations[v] == null);
        make(v, new Relation(source.width, source, source, (rows, same) -> {
            Rows made = new Rows();
            rows.keySet().forEach(row -> made.more(row, 1));
            return made;
        }));
    }

    void group(int v, int of, int by, int sort, int c) {
        Relation source = at(of);
        index(isPlace(v) && (by == NONE || has(source, by)) && has(source, c));
        state(relations[v] == null);
        argument(sort >= 0 && sort <= 3);
        make(v, new Relation(by == NONE ? 1 : 2, source, source, (rows, same) -> {
            TreeMap<Integer, Rows> groups = new TreeMap<>();
            rows.forEach((row, n) ->
                groups.computeIfAbsent(by == NONE ? 0 : row.get(by), value -> new Rows()).more(row, n));
            Rows made = new Rows();
            groups.forEach((value, members) -> {
                int got = valueOf(members, sort, c);
                made.more(by == NONE ? List.of(got) : List.of(value, got), 1);
            });
            return made;
        }));
    }

    private static int valueOf(Rows members, int sort, int c) {
        List<Integer> values = members.keySet().stream().map(row -> row.get(c)).toList();
        if (sort == 2) {
            return Collections.min(values);
        }
        if (sort == 3) {
            return Collections.max(values);
        }
        java.math.BigInteger sum = java.math.BigInteger.ZERO;
        for (List<Integer> row : members.keySet()) {
            long each = sort == 0 ? 1 : row.get(c);
            sum = sum.add(java.math.BigInteger.valueOf(each)
                .multiply(java.math.BigInteger.valueOf(members.get(row))));
        }
        return sum.intValue();
    }

    void drop(int r) {
        Relation dropped = at(r);
        for (Relation relation : relations) {
            state(relation == null || relation.left != dropped && relation.right != dropped);
        }
        relations[r] = null;
    }

    int put(int r, int a, int b, int c, int d, int n) {
        Relation table = at(r);
        state(table.maker == null);
        argument(n != 0 && n >= -1000000 && n <= 1000000);
        List<Integer> row = Arrays.asList(a, b, c, d).subList(0, table.width);
        long then = table.table.getOrDefault(row, 0L) + n;
        argument(then >= 0);
        Rows rows = new Rows();
        rows.putAll(table.table);
        rows.put(row, then);
        rows.values().removeIf(times -> times == 0);
        change(table, rows);
        return (int) then;
    }

    int fill(int r, int a, int step, int b, int other, int n) {
        Relation table = at(r);
        state(table.maker == null);
        argument(n >= 1 && n <= 40);
        Rows rows = new Rows();
        rows.putAll(table.table);
        int first = a;
        int second = b;
        for (int i = 0; i < n; i++) {
            rows.more(List.of(first, second, 0, 0).subList(0, table.width), 1);
            first += step;
            second += other;
        }
        change(table, rows);
        return rows.size();
    }

    int width(int r) {
        index(isPlace(r));
        return relations[r] == null ? 0 : relations[r].width;
    }

    long times(int r, int a, int b, int c, int d) {
        Relation asked = at(r);
        return asked.rows().getOrDefault(Arrays.asList(a, b, c, d).subList(0, asked.width), 0L);
    }

    long cell(int r, int k, int column) {
        Relation asked = at(r);
        List<List<Integer>> all = new ArrayList<>(asked.rows().keySet());
        index(k >= 0 && k < all.size() && column >= 0 && column <= asked.width);
        List<Integer> row = all.get(k);
        return column == asked.width ? asked.rows().get(row) : row.get(column);
    }

    int count(int what) {
        argument(what >= 0 && what <= 2);
        int counted = 0;
        for (Relation relation : relations) {
            if (relation != null) {
                counted += what == 0 ? 1 : what == 2 ? relation.rows().size() : relation.maker == null ? 1 : 0;
            }
        }
        return counted;
    }

    private void change(Relation table, Rows rows) {
        Rows before = table.table;
        Rows[] were = allRows();
        table.table = rows;
        Rows[] are;
        try {
            are = allRows();
        } catch (UnsupportedOperationException e) {
            table.table = before;
            throw e;
        }
        for (int r = 0; r < 8; r++) {
            if (relations[r] != null) {
                relations[r].changed = different(were[r], are[r]);
            }
        }
    }

    private Rows[] allRows() {
        Rows[] all = new Rows[8];
        for (int r = 0; r < 8; r++) {
            all[r] = relations[r] == null ? null : relations[r].rows();
        }
        return all;
    }

    private static int different(Rows were, Rows are) {
        Rows either = new Rows();
        either.putAll(were);
        either.putAll(are);
        int different = 0;
        for (List<Integer> row : either.keySet()) {
            if (!were.getOrDefault(row, 0L).equals(are.getOrDefault(row, 0L))) {
                different++;
            }
        }
        return different;
    }
}
