import java.util.Arrays;

/** All that can be asked of an object, within 360 calls, as one row of answers; it is used up by it. */
final class Whole {
    static final int MOST_CALLS = 360;
    private static final int[] PLACES = {0, 1, 2, 3, 4, 5, 58, 59};

    private final TuesdayKnew x;
    private final long[] answers = new long[MOST_CALLS];
    private int calls = 0;

    private Whole(TuesdayKnew x) {
        this.x = x;
    }

    static long[] of(TuesdayKnew x) {
        Whole whole = new Whole(x);
        whole.ask();
        return Arrays.copyOf(whole.answers, whole.calls);
    }

    private void put(long answer) {
        answers[calls] = answer;
        calls++;
    }

    private void ask() {
        int names = counts();
        int kept = Math.min(20, x.count(5));
        for (int i = 0; i < kept; i++) {
            put(x.trace(i));
        }
        for (int a = 0; a < names; a++) {
            put(x.knows(a));
            put(x.habit(a, 0));
            put(x.habit(a, 8));
            for (int b = a + 1; b < names; b++) {
                put(x.goes(a, b));
            }
        }
        trades(16);
        tapes();
        takeApart(names);
        put(x.law());
        put(x.undo());
        names = counts();
        trades(3);
        takeApart(names);
        letters();
    }

    private int counts() {
        for (int what = 0; what < 6; what++) {
            put(x.count(what));
        }
        return x.count(0);
    }

    private void trades(int most) {
        int trades = Math.min(most, x.count(1));
        for (int t = 0; t < trades; t++) {
            for (int what = 0; what < 5; what++) {
                put(x.of(t, what));
            }
        }
    }

    private void tapes() {
        for (int tape = 0; tape < 6; tape++) {
            for (int i : PLACES) {
                put(x.read(tape, i));
            }
            // What is kept of this number tells the sort.
            put(x.item(tape, 0, 0x123456789ABCDEFL));
            put(x.read(tape, 0));
        }
    }

    /** Blanks of each number of letters tell which names have so many. */
    private void letters() {
        for (int n = 1; n <= 12; n++) {
            put(x.blank(-1));
            put(x.blank(n));
            put(x.fills(0));
        }
    }

    /** Joinings, news and blanks, by calls that answer how things were. */
    private void takeApart(int names) {
        for (int i = 0; i < 6; i++) {
            put(x.fills(i));
        }
        for (int a = 0; a < names; a++) {
            put(x.news(a, -1));
            for (int b = a + 1; b < names; b++) {
                put(x.join(a, b, 0));
            }
        }
    }
}
