/** Random runs of up to 512 calls, each answer compared with the plain model's. */
public final class PlainModelTest {
    /** One turn makes some forty calls at most, and an object is used for 512. */
    private static final int CALLS = 460;
    private static final int[] FAR = {Integer.MIN_VALUE, Integer.MAX_VALUE, -1, -2, 8, 9, 16, 60, 61, 99, 100, 1000};

    private final Due due;
    private final StringBuilder told = new StringBuilder();
    private long seed;
    private TuesdayKnew x = new TuesdayKnew();
    private PlainModel y = new PlainModel();
    private boolean differs = false;
    private int calls = 0;

    private PlainModelTest(long seed, Due due) {
        this.seed = seed * 0x9E3779B97F4A7C15L + 1;
        this.due = due;
    }

    public static void main(String[] args) {
        Due due = new Due("PlainModelTest");
        int runs = args.length > 0 ? Integer.parseInt(args[0]) : 300;
        int from = args.length > 1 ? Integer.parseInt(args[1]) : 0;
        for (int run = from; run < from + runs; run++) {
            new PlainModelTest(run, due).run(run);
        }
        due.end();
    }

    private int below(int n) {
        seed = seed * 6364136223846793005L + 1442695040888963407L;
        return (int) ((seed >>> 33) % n);
    }

    /** Mostly from least to most, now and then a little or far beyond. */
    private int about(int least, int most) {
        int luck = below(40);
        if (luck == 0) {
            return FAR[below(FAR.length)];
        }
        return luck == 1 ? least - 1 : luck == 2 ? most + 1 : least + below(most - least + 1);
    }

    private int someName() {
        return below(30) == 0 ? about(0, 7) : below(Math.max(1, y.count(0)));
    }

    private int someTrade() {
        return below(30) == 0 ? about(0, 15) : below(Math.max(1, y.count(1)));
    }

    private void run(int run) {
        boolean wild = run % 5 == 0;
        int names = wild ? 0 : 2 + below(7);
        for (int i = 0; i < names; i++) {
            name();
        }
        if (!wild) {
            for (int i = below(3) == 0 ? 25 : below(14); i > 0; i--) {
                join();
            }
            news();
            if (below(2) == 0) {
                news();
            }
            law();
        }
        for (int turns = 0; turns < CALLS && calls < CALLS && !differs; turns++) {
            call(below(35));
        }
        due.holds("run " + run + " differs:" + told, !differs);
    }

    private void is(String call, long got, long want) {
        calls++;
        told.append(' ').append(call).append("=").append(got);
        if (got != want) {
            differs = true;
            told.append(" (due is ").append(want).append(')');
        }
    }

    private void name() {
        int n = below(3) == 0 ? about(1, 12) : 1 + below(4);
        is("name(" + n + ")", x.name(n), y.name(n));
    }

    private void join() {
        int a = someName();
        int b = someName();
        int sort = below(6) == 0 ? 0 : about(0, 5);
        is("join(" + a + "," + b + "," + sort + ")", x.join(a, b, sort), y.join(a, b, sort));
    }

    private void news() {
        int a = someName();
        int hour = calls > 60 && below(2) == 0 ? -1 : below(3) == 0 ? about(-1, 99) : below(30);
        is("news(" + a + "," + hour + ")", x.news(a, hour), y.news(a, hour));
    }

    private void feed(int bytes, int n) {
        is("feed(" + bytes + "," + n + ")", x.feed(bytes, n), y.feed(bytes, n));
    }

    private void law() {
        String s = lawText();
        if (below(4) == 0 && s.length() > 0) {
            int at = below(s.length());
            String change = "waybps 19;ahl=<>()!&|f".substring(below(21));
            s = s.substring(0, at) + change.charAt(0) + s.substring(at + below(2));
        }
        if (below(12) == 0) {
            s = s.substring(0, below(s.length() + 1));
        }
        for (int i = 0; i < s.length(); i += 4) {
            int bytes = 0;
            int n = Math.min(4, s.length() - i);
            for (int k = 0; k < n; k++) {
                bytes = bytes << 8 | s.charAt(i + k);
            }
            feed(bytes, n);
        }
        is("law() of " + s, x.law(), y.law());
    }

    private String lawText() {
        StringBuilder s = new StringBuilder();
        int clauses = below(20) == 0 ? 11 : 1 + below(6);
        for (int i = 0; i < clauses; i++) {
            // Every other law lets the news go somewhere at least.
            String clause = below(4) == 0 ? "way " + below(30) + " s<" + (3 + below(5)) : clause(clauses);
            if (s.length() + clause.length() < 100 || i == 0) {
                s.append(i == 0 ? "" : ";").append(clause);
            }
        }
        return s.toString();
    }

    private String clause(int clauses) {
        int luck = clauses > 6 ? 6 + below(3) : below(9);
        if (luck < 3) {
            return "way " + (below(5) == 0 ? below(1000) : below(40)) + " " + either(below(3));
        }
        if (luck < 6) {
            return "habit " + (below(5) == 0 ? below(1000) : below(60)) + " " + either(below(3));
        }
        return luck == 6 ? "paper " + below(100) : luck == 7 ? "watch " + below(60) : "steps " + below(8);
    }

    private String either(int depth) {
        String t = all(depth);
        return below(3) == 0 ? t + "|" + all(depth) : t;
    }

    private String all(int depth) {
        String f = one(depth);
        return below(3) == 0 ? f + "&" + one(depth) : f;
    }

    private String one(int depth) {
        int luck = below(5);
        if (depth > 0 && luck < 2) {
            return luck == 0 ? "!" + one(depth - 1) : "(" + either(depth - 1) + ")";
        }
        return "" + "abslf".charAt(below(5)) + "<=>".charAt(below(3)) + below(below(6) == 0 ? 100 : 8);
    }

    private void call(int which) {
        int a = someName();
        int b = someName();
        int t = someTrade();
        int hour = about(0, 99);
        int n = about(0, 9);
        int tape = below(3) == 0 ? about(0, 5) : below(2);
        int i = about(0, 6);
        switch (which) {
            case 0 -> name();
            case 1 -> join();
            case 2 -> {
                if (below(3) == 0) {
                    news();
                }
            }
            case 3 -> {
                if (below(4) == 0) {
                    feed(below(1 << 30), about(0, 4));
                }
            }
            case 4 -> law();
            case 5 -> is("goes(" + a + "," + b + ")", x.goes(a, b), y.goes(a, b));
            case 6 -> is("habit(" + a + "," + n + ")", x.habit(a, n), y.habit(a, n));
            case 7 -> is("knows(" + a + ")", x.knows(a), y.knows(a));
            case 8 -> {
                for (int k = -2; k < 9; k++) {
                    is("way(" + a + "," + k + ")", x.way(a, k), y.way(a, k));
                }
            }
            case 9 -> {
                int known = y.knows(a);
                int then = known < 0 || below(3) == 0 ? hour : known + below(12);
                is("silent(" + a + "," + then + ")", x.silent(a, then), y.silent(a, then));
            }
            default -> trades(which, a, t, hour, n, tape, i);
        }
    }

    private void trades(int which, int a, int t, int hour, int n, int tape, int i) {
        int small = about(0, 2);
        switch (which) {
            case 10, 11 -> {
                int kind = about(0, 6);
                int friday = below(2) == 0 ? below(3) : about(0, 8);
                int lots = about(1, 99);
                is("trade(" + kind + "," + a + "," + friday + "," + hour + "," + lots + ")",
                    x.trade(kind, a, friday, hour, lots), y.trade(kind, a, friday, hour, lots));
            }
            case 12 -> is("of(" + t + "," + i + ")", x.of(t, i), y.of(t, i));
            case 13 -> is("of(" + t + ",5)", x.of(t, 5), y.of(t, 5));
            case 14 -> is("sure(" + small + ")", x.sure(small), y.sure(small));
            case 15 -> is("fridays(" + a + ")", x.fridays(a), y.fridays(a));
            case 16 -> {
                int part = about(0, 1);
                int what = about(0, 1);
                is("again(" + a + "," + n + "," + what + "," + part + ")",
                    x.again(a, n, what, part), y.again(a, n, what, part));
            }
            case 17 -> is("oddest(" + n + ")", x.oddest(n), y.oddest(n));
            case 18 -> is("ring(" + small + ")", x.ring(small), y.ring(small));
            default -> lots(which, a, t, hour, tape, i);
        }
    }

    private void lots(int which, int a, int t, int hour, int tape, int i) {
        int lots = below(3) == 0 ? about(0, 999) : below(150);
        switch (which) {
            case 19 -> is("parted(" + lots + "," + hour + ")", x.parted(lots, hour), y.parted(lots, hour));
            case 20 -> {
                int k = about(0, 8);
                is("watch(" + lots + "," + hour + "," + k + ")", x.watch(lots, hour, k), y.watch(lots, hour, k));
            }
            case 21 -> is("ask(" + hour + ")", x.ask(hour), y.ask(hour));
            case 22 -> {
                int n = below(12) == 0 ? -1 : below(4) == 0 ? about(-1, 12) : 1 + below(4);
                is("blank(" + n + ")", x.blank(n), y.blank(n));
            }
            case 23 -> {
                int k = below(2) == 0 ? -1 : about(-1, 5);
                is("fills(" + k + ")", x.fills(k), y.fills(k));
            }
            case 24 -> is("filled(" + i + ")", x.filled(i), y.filled(i));
            default -> tapes(which, a, t, tape, i);
        }
    }

    private void tapes(int which, int a, int t, int tape, int i) {
        int x0 = below(3) == 0 ? about(-9, 9) : below(100);
        int k = about(0, 6);
        switch (which) {
            case 25, 26 -> {
                if (below(3) == 0) {
                    tellWay(tape);
                }
                int from = below(2) == 0 ? 0 : about(-1, 6);
                is("judge(" + tape + "," + from + "," + a + ")", x.judge(tape, from, a), y.judge(tape, from, a));
            }
            case 27 -> {
                if (below(3) == 0) {
                    is("image()", x.image(), y.image());
                }
            }
            case 28 -> {
                if (below(3) == 0) {
                    is("undo()", x.undo(), y.undo());
                }
            }
            case 29 -> {
                int act = about(0, 2);
                is("act(" + t + "," + act + "," + x0 + ")", x.act(t, act, x0), y.act(t, act, x0));
                for (int p = -1; p < 14; p++) {
                    is("trace(" + p + ")", x.trace(p), y.trace(p));
                }
            }
            case 30 -> is("taken(" + t + "," + k + ")", x.taken(t, k), y.taken(t, k));
            case 31 -> {
                for (int what = -1; what < 7; what++) {
                    is("count(" + what + ")", x.count(what), y.count(what));
                }
            }
            case 32 -> {
                int sort = about(-1, 4);
                int n = below(3) == 0 ? about(0, 60) : below(8);
                is("tape(" + tape + "," + sort + "," + n + ")", x.tape(tape, sort, n), y.tape(tape, sort, n));
            }
            case 33 -> {
                long v = below(2) == 0 ? below(8) : (long) below(1 << 30) << below(34) >> below(40);
                is("item(" + tape + "," + i + "," + v + ")", x.item(tape, i, v), y.item(tape, i, v));
                is("read(" + tape + "," + i + ")", x.read(tape, i), y.read(tape, i));
            }
            default -> {
                int other = about(0, 5);
                int j = about(0, 4);
                int n = about(0, 4);
                is("shift(" + tape + "," + i + "," + other + "," + j + "," + n + ")",
                    x.shift(tape, i, other, j, n), y.shift(tape, i, other, j, n));
                for (int p = 0; p < 8; p++) {
                    is("read(" + other + "," + p + ")", x.read(other, p), y.read(other, p));
                }
            }
        }
    }

    /** A row that often is the way that news really takes, with a name changed now and then. */
    private void tellWay(int tape) {
        int goal = someName();
        int length = y.way(goal, -1);
        is("tape(" + tape + ",0,8)", x.tape(tape, 0, 8), y.tape(tape, 0, 8));
        for (int p = 0; p < 8; p++) {
            int v = p < length ? y.way(goal, p) : someName();
            v = below(12) == 0 ? someName() : v;
            is("item(" + tape + "," + p + "," + v + ")", x.item(tape, p, v), y.item(tape, p, v));
        }
    }
}
