import java.util.function.Consumer;
import java.util.function.Supplier;
import java.util.function.ToLongFunction;

/**
 * A state next to a boundary. Every question gets an object of its own that the same calls have made, so
 * that no answer hangs on a question before it and no object comes near its 512 calls.
 */
final class Edge {
    private static final int RELATIONS = 8;

    private final Due due;
    private final Supplier<BagViews> start;

    Edge(Due due, Supplier<BagViews> start) {
        this.due = due;
        this.start = start;
    }

    /** The same state with some calls more. */
    Edge after(Consumer<BagViews> calls) {
        return new Edge(due, () -> {
            BagViews x = start.get();
            calls.accept(x);
            return x;
        });
    }

    void accepts(String what, Consumer<BagViews> call) {
        due.done(what, () -> call.accept(start.get()));
    }

    /** The call is not refused, and a relation then has these rows. */
    void gives(String what, Consumer<BagViews> call, int r, String rows) {
        BagViews x = start.get();
        due.done(what, () -> call.accept(x));
        due.same(what, rows, Due.rowsOf(x, r));
    }

    void has(String what, int r, String rows) {
        due.same(what, rows, Due.rowsOf(start.get(), r));
    }

    void answers(String what, long want, ToLongFunction<BagViews> call) {
        due.answer(what, want, () -> call.applyAsLong(start.get()));
    }

    /** A call that only asks answers this, and has changed nothing. */
    void asks(String what, long want, ToLongFunction<BagViews> call) {
        answers(what, want, call);
        leavesAll(what, call::applyAsLong);
    }

    /** The call throws exactly this, and has changed nothing. */
    void refuses(String what, Class<? extends RuntimeException> want, Consumer<BagViews> call) {
        due.refusal(what, want, () -> call.accept(start.get()));
        leavesAll(what, call);
    }

    /** A twin that did not get the call answers every other call alike, now and later. */
    private void leavesAll(String what, Consumer<BagViews> call) {
        for (int r = 0; r < RELATIONS; r++) {
            due.same(what + ": relation " + r + " afterwards", stateOf(start.get(), r), stateOf(twin(call), r));
        }
        due.same(what + ": counts afterwards", countsOf(start.get()), countsOf(twin(call)));
        due.same(what + ": calls afterwards", laterOf(start.get()), laterOf(twin(call)));
    }

    private BagViews twin(Consumer<BagViews> call) {
        BagViews x = start.get();
        Due.said(() -> {
            call.accept(x);
            return 0;
        });
        return x;
    }

    private static String stateOf(BagViews x, int r) {
        return "width " + x.width(r) + ", rows " + Due.said(() -> x.rows(r)) + ", size "
            + Due.said(() -> x.size(r)) + ", changed " + Due.said(() -> x.changed(r)) + ", times "
            + Due.said(() -> x.times(r, 1, 3, 0, 0)) + ": " + Due.rowsOf(x, r);
    }

    private static String countsOf(BagViews x) {
        return x.count(0) + " relations, " + x.count(1) + " tables, " + x.count(2) + " rows";
    }

    /** Changes of all that is there, what they reach, and at last a table in every place. */
    private static String laterOf(BagViews x) {
        StringBuilder text = new StringBuilder();
        for (int i = 0; i < RELATIONS; i++) {
            int r = i;
            text.append(Due.said(() -> x.put(r, 1, 3, 5, 7, 1))).append(' ');
            text.append(Due.said(() -> x.fill(r, 4, 1, 1, 1, 2))).append(' ');
            text.append(sizesOf(x)).append('\n');
        }
        for (int i = 0; i < 2 * RELATIONS; i++) {
            int r = i % RELATIONS;
            text.append(Due.said(() -> {
                x.drop(r);
                return 0;
            })).append(' ');
        }
        for (int i = 0; i < RELATIONS; i++) {
            int r = i;
            text.append(Due.said(() -> {
                x.table(r, 2);
                return x.rows(r);
            })).append(' ');
        }
        return text.toString();
    }

    private static String sizesOf(BagViews x) {
        StringBuilder text = new StringBuilder();
        for (int i = 0; i < RELATIONS; i++) {
            int r = i;
            text.append(Due.said(() -> x.size(r))).append('/').append(Due.said(() -> x.changed(r))).append(' ');
        }
        return text.toString();
    }
}
