import java.util.function.LongSupplier;

/** Counts the answers that are not the ones due; a test ends with end(). */
final class Due {
    private int wrong = 0;
    private int asked = 0;

    void answer(String what, long want, LongSupplier call) {
        asked++;
        try {
            long got = call.getAsLong();
            if (got != want) {
                tell(what, "answered " + got, "" + want);
            }
        } catch (RuntimeException e) {
            tell(what, "threw " + e, "" + want);
        }
    }

    /** The very class is due: what the machine throws is often a class below it. */
    void refusal(String what, Class<? extends RuntimeException> want, Runnable call) {
        asked++;
        try {
            call.run();
            tell(what, "threw nothing", want.getName());
        } catch (RuntimeException e) {
            if (e.getClass() != want) {
                tell(what, "threw " + e, want.getName());
            }
        }
    }

    void done(String what, Runnable call) {
        asked++;
        try {
            call.run();
        } catch (RuntimeException e) {
            tell(what, "threw " + e, "nothing thrown");
        }
    }

    void same(String what, String want, String got) {
        asked++;
        if (!want.equals(got)) {
            tell(what, "is " + got, want);
        }
    }

    void holds(String what, boolean held) {
        same(what, "true", "" + held);
    }

    private void tell(String what, String got, String want) {
        wrong++;
        if (wrong <= 50) {
            System.out.println(what + " " + got + ", due is " + want);
        }
    }

    void end() {
        System.out.println(asked + " asked, " + wrong + " not as due");
        if (wrong != 0 || asked == 0) {
            System.exit(1);
        }
    }

    /** A call's answer, or the name of what it throws. */
    static String said(LongSupplier call) {
        try {
            return "" + call.getAsLong();
        } catch (RuntimeException e) {
            return e.getClass().getSimpleName();
        }
    }

    /** All rows of a relation in their order, as "1 5 x2 | 7 3 x1", by cell() alone. */
    static String rowsOf(BagViews x, int r) {
        if (x.width(r) == 0) {
            return "none";
        }
        StringBuilder text = new StringBuilder();
        for (int k = 0; k < x.rows(r); k++) {
            text.append(k == 0 ? "" : " | ");
            for (int column = 0; column < x.width(r); column++) {
                text.append(x.cell(r, k, column)).append(' ');
            }
            text.append('x').append(x.cell(r, k, x.width(r)));
        }
        return text.toString();
    }
}
