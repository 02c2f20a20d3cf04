import java.util.Arrays;

/** Who knew on Tuesday: names, news, laws, trades, lots, blanks, ways told, an image, tapes. */
public final class TuesdayKnew {
    public static final int NONE = -1, BAD = -2, STATE = -3, FULL = -4;
    public static final long NO = Long.MIN_VALUE;

    private static final int NEVER = -5, FAULT = -10, NOTHING = -11, CAST = -12, PLACE = -13, SIZE = -14;
    private static final int MOST_NAMES = 8, MOST_LETTERS = 12, MOST_SORT = 5, MOST_TEXT = 100;
    private static final int MOST_LAWS = 6, MOST_CLAUSES = 10, MOST_STEPS = 9, LAST_HOUR = 99;
    private static final int MOST_TRADES = 16, MOST_LOTS = 99, FRIDAYS = 9, MOST_BLANKS = 6;
    private static final int MOST_PARTED = 999, MOST_WATCH = 999, UNTOLD = 999;
    private static final int TAPES = 6, MOST_ITEMS = 60, LAST_SORT = 4, ENDED = 1000;

    private static final int TRADE = 0, USUAL = 1, HEARD = 2, KNOWN = 3, LUCKY = 4, HANDED = 5, SPLIT = 6;
    private static final int KINDS = 7, ACTS = 3;
    /** The KIND above each KIND; above TRADE there is none. */
    private static final int[] ABOVE = {-1, 0, 0, 0, 1, 3, 3};

    private final int[] letters = new int[MOST_NAMES];
    private int names;
    private final Text text = new Text();
    /** The first has no CLAUSES and holds while no other does; the LAW of number i stands at i + 1. */
    private final Law[] laws = new Law[MOST_LAWS + 1];
    private int lawCount;
    private final World now;
    private final World kept;
    private boolean imageTaken;
    private final Spread spread = new Spread();
    private final Odds odds = new Odds();
    private final Actor actor = new Actor();
    private final Tape[] tapes = new Tape[TAPES];

    public TuesdayKnew() {
        for (int i = 0; i < laws.length; i++) {
            laws[i] = new Law();
        }
        for (int i = 0; i < tapes.length; i++) {
            tapes[i] = new Tape();
        }
        now = new World(laws[0]);
        kept = new World(laws[0]);
    }

    // ---- names, news

    public int name(int letters) {
        if (!isLetters(letters)) {
            return BAD;
        }
        if (names >= MOST_NAMES) {
            return FULL;
        }
        this.letters[names] = letters;
        names++;
        return names - 1;
    }

    public int join(int a, int b, int sort) {
        if (!isName(a) || !isName(b)) {
            return NONE;
        }
        if (a == b || sort < 0 || sort > MOST_SORT) {
            return BAD;
        }
        return now.joinBoth(a, b, sort);
    }

    public int news(int name, int hour) {
        if (!isName(name)) {
            return NONE;
        }
        if (hour != -1 && !isHour(hour)) {
            return BAD;
        }
        int before = now.had[name];
        now.had[name] = hour == -1 ? NEVER : hour;
        return before;
    }

    public int feed(int bytes, int n) {
        if (n < 0 || n > 4) {
            return BAD;
        }
        if (text.length + n > MOST_TEXT) {
            return FULL;
        }
        for (int i = n - 1; i >= 0; i--) {
            text.append(bytes >>> (8 * i) & 255);
        }
        return text.length;
    }

    public int law() {
        if (lawCount >= MOST_LAWS) {
            return FULL;
        }
        // The next place is nobody's yet, so a LAW with a FAULT may leave there what it likes.
        Law next = laws[lawCount + 1];
        int fault = text.readInto(next);
        text.length = 0;
        if (fault >= 0) {
            return FAULT - fault;
        }
        now.held = next;
        lawCount++;
        return lawCount - 1;
    }

    public int goes(int a, int b) {
        if (!isName(a) || !isName(b)) {
            return NONE;
        }
        if (a == b) {
            return BAD;
        }
        return now.hoursBetween(a, b);
    }

    public int habit(int name, int friday) {
        if (!isName(name) || !isFriday(friday)) {
            return NONE;
        }
        return habitOf(name, friday);
    }

    public int knows(int name) {
        if (!isName(name)) {
            return NONE;
        }
        spreadAll();
        return spread.hourOf(name);
    }

    public int way(int name, int i) {
        if (!isName(name)) {
            return NONE;
        }
        spread.take(now, names);
        int length = spread.rowTo(name);
        if (i == -1) {
            return length;
        }
        return i >= 0 && i < length ? spread.row[i] : NONE;
    }

    public int silent(int name, int hour) {
        if (!isName(name)) {
            return NONE;
        }
        if (!isHour(hour)) {
            return BAD;
        }
        if (now.had[name] >= 0 && now.had[name] <= hour) {
            return NEVER;
        }
        spread.take(now, names);
        for (int size = 0; size < names; size++) {
            int set = leastSilence(name, hour, size);
            if (set >= 0) {
                return set;
            }
        }
        return NEVER;
    }

    private int leastSilence(int name, int hour, int size) {
        int sets = 1 << names;
        for (int set = 0; set < sets; set++) {
            if (Integer.bitCount(set) == size && (set >> name & 1) == 0) {
                spread.run(set);
                if (!spread.knownBy(name, hour)) {
                    return set;
                }
            }
        }
        return NONE;
    }

    // ---- trades

    public int trade(int kind, int name, int friday, int hour, int lots) {
        if (!isKind(kind) || !isName(name) || !isFriday(friday)) {
            return NONE;
        }
        if (!isHour(hour) || lots < 1 || lots > MOST_LOTS) {
            return BAD;
        }
        if (now.trades >= MOST_TRADES) {
            return FULL;
        }
        return now.addTrade(kind, name, friday, hour, lots);
    }

    public int of(int trade, int what) {
        if (!isTrade(trade)) {
            return NONE;
        }
        switch (what) {
            case 0: return now.kinds[trade];
            case 1: return now.buyers[trade];
            case 2: return now.fridays[trade];
            case 3: return now.hours[trade];
            case 4: return now.lots[trade];
            case 5:
                spreadAll();
                return explaining(trade);
            default: return NONE;
        }
    }

    public int sure(int what) {
        if (what != 0 && what != 1) {
            return NONE;
        }
        spreadAll();
        int found = 0;
        for (int t = 0; t < now.trades; t++) {
            int all = explaining(t);
            boolean fits = what == 0 ? knownAlone(all) : (all >> now.kinds[t] & 1) == 0;
            if (fits) {
                found |= 1 << t;
            }
        }
        return found;
    }

    public int fridays(int name) {
        if (!isName(name)) {
            return NONE;
        }
        return now.fridaysOf(name);
    }

    public long again(int name, int n, int what, int part) {
        if (!isName(name) || n < 0 || n > FRIDAYS || what < 0 || what > 1 || part < 0 || part > 1) {
            return NO;
        }
        weighAgain(name, n);
        if (what == 1) {
            odds.multiply(names);
        }
        odds.reduce();
        return part == 0 ? odds.above : odds.below;
    }

    public int oddest(int n) {
        if (names == 0) {
            return NONE;
        }
        if (n < 0 || n > FRIDAYS) {
            return BAD;
        }
        int found = 0;
        long least = 0;
        for (int name = 0; name < names; name++) {
            weighAgain(name, n);
            // All stand above the same line, 100 to the n, until they are reduced.
            if (name == 0 || odds.above < least) {
                least = odds.above;
                found = name;
            }
        }
        return found;
    }

    public int ring(int what) {
        switch (what) {
            case 0: return alikePairs();
            case 1: return greatestRing();
            default: return NONE;
        }
    }

    /** ALL that EXPLAIN a TRADE; the NEWS must have been spread before. */
    private int explaining(int trade) {
        int name = now.buyers[trade];
        int often = habitOf(name, now.fridays[trade]);
        int all = 1 << TRADE;
        if (often > 0) {
            all |= 1 << USUAL;
        }
        if (often >= 50) {
            all |= 1 << LUCKY;
        }
        if (now.hours[trade] >= now.held.lastOf(Law.PAPER, UNTOLD)) {
            all |= 1 << HEARD;
        }
        if (!spread.knownBy(name, now.hours[trade])) {
            return all;
        }
        all |= 1 << KNOWN;
        if (now.had[name] < 0) {
            all |= 1 << HANDED;
        }
        if (now.lots[trade] < now.held.lastOf(Law.WATCH, UNTOLD) && now.hasFellow(trade)) {
            all |= 1 << SPLIT;
        }
        return all;
    }

    private static boolean knownAlone(int all) {
        int asked = 1 << USUAL | 1 << HEARD | 1 << KNOWN;
        return (all & asked) == 1 << KNOWN;
    }

    private void weighAgain(int name, int n) {
        odds.start();
        for (int friday = 0; friday < n; friday++) {
            odds.addFriday(habitOf(name, friday));
        }
        int there = Integer.bitCount(now.fridaysOf(name) & (1 << n) - 1);
        odds.atLeast(there);
    }

    /** The NAMES with the same FRIDAYS as a NAME, itself too; none if it has no FRIDAYS. */
    private int alikeWith(int name) {
        int days = now.fridaysOf(name);
        int set = 0;
        for (int other = 0; other < names; other++) {
            if (days != 0 && now.fridaysOf(other) == days) {
                set |= 1 << other;
            }
        }
        return set;
    }

    private int alikePairs() {
        int pairs = 0;
        for (int name = 0; name < names; name++) {
            // Only those behind the NAME, so that no pair is counted twice.
            pairs += Integer.bitCount(alikeWith(name) >> (name + 1));
        }
        return pairs;
    }

    private int greatestRing() {
        int greatest = 0;
        for (int name = 0; name < names; name++) {
            int set = alikeWith(name);
            int size = Integer.bitCount(set);
            int best = Integer.bitCount(greatest);
            if (size >= 2 && (size > best || size == best && set < greatest)) {
                greatest = set;
            }
        }
        return greatest;
    }

    // ---- lots, asking, blanks

    public int parted(int lots, int hour) {
        if (!isParted(lots) || !isHour(hour)) {
            return BAD;
        }
        if (lots == 0) {
            return 0;
        }
        int most = now.held.lastOf(Law.WATCH, UNTOLD) - 1;
        if (most < 1) {
            return NEVER;
        }
        int needed = (lots + most - 1) / most;
        return needed <= knowers(hour) ? needed : NEVER;
    }

    public int watch(int lots, int hour, int k) {
        if (!isParted(lots) || !isHour(hour) || k < 0 || k > MOST_NAMES) {
            return BAD;
        }
        if (lots == 0) {
            return 1;
        }
        int buyers = Math.min(k, knowers(hour));
        if (buyers < 1) {
            return NEVER;
        }
        int most = (lots + buyers - 1) / buyers;
        return most < MOST_WATCH ? most + 1 : NEVER;
    }

    public int ask(int hour) {
        if (names == 0) {
            return NONE;
        }
        if (!isHour(hour)) {
            return BAD;
        }
        spreadAll();
        int knowing = spread.knownByAll(hour);
        int found = 0;
        int most = NONE;
        for (int name = 0; name < names; name++) {
            spread.run(1 << name);
            int others = knowing & ~(1 << name);
            int lost = Integer.bitCount(others & ~spread.knownByAll(hour));
            if (lost > most) {
                most = lost;
                found = name;
            }
        }
        return found;
    }

    public int blank(int letters) {
        if (letters == -1) {
            now.blankCount = 0;
            return 0;
        }
        if (!isLetters(letters)) {
            return BAD;
        }
        if (now.blankCount >= MOST_BLANKS) {
            return FULL;
        }
        now.blanks[now.blankCount] = letters;
        now.blankCount++;
        return now.blankCount;
    }

    public int fills(int i) {
        if (i == -1) {
            return waysToFill();
        }
        return isBlank(i) ? namesOfLetters(now.blanks[i]) : NONE;
    }

    public int filled(int i) {
        if (!isBlank(i)) {
            return NONE;
        }
        int fitting = namesOfLetters(now.blanks[i]);
        // NAMES of as many LETTERS can change places, so only one that is alone is sure.
        if (Integer.bitCount(fitting) != 1 || waysToFill() == 0) {
            return NEVER;
        }
        return leastOf(fitting);
    }

    private int knowers(int hour) {
        spreadAll();
        return Integer.bitCount(spread.knownByAll(hour));
    }

    private int namesOfLetters(int n) {
        int set = 0;
        for (int name = 0; name < names; name++) {
            if (letters[name] == n) {
                set |= 1 << name;
            }
        }
        return set;
    }

    /** The least of the NAMES in a set; NONE if it is empty. */
    private int leastOf(int set) {
        for (int name = 0; name < names; name++) {
            if ((set >> name & 1) != 0) {
                return name;
            }
        }
        return NONE;
    }

    private int waysToFill() {
        int ways = 1;
        for (int i = 0; i < now.blankCount; i++) {
            int unused = Integer.bitCount(namesOfLetters(now.blanks[i]));
            for (int before = 0; before < i; before++) {
                if (now.blanks[before] == now.blanks[i]) {
                    unused--;
                }
            }
            ways *= Math.max(unused, 0);
        }
        return ways;
    }

    // ---- judging, the image, acts, tapes

    public int judge(int tape, int i, int name) {
        Tape told = tapeAt(tape);
        if (told == null || !isName(name)) {
            return NONE;
        }
        if (told.sort != Tape.EMPTY && told.sort != Tape.BYTES) {
            return CAST;
        }
        if (!told.hasPlace(i)) {
            return ENDED;
        }
        return judgeRow(told, i, name);
    }

    public int image() {
        kept.become(now);
        imageTaken = true;
        return now.trades;
    }

    public int undo() {
        if (!imageTaken) {
            return STATE;
        }
        now.become(kept);
        return now.trades;
    }

    public int act(int trade, int act, int x) {
        actor.forget();
        if (!isTrade(trade) || act < 0 || act >= ACTS) {
            return 0;
        }
        actor.takeOn(trade, now.kinds[trade], now.lots[trade]);
        return actor.answer(act, x);
    }

    public int trace(int i) {
        return i >= 0 && i < Math.min(actor.began, Actor.MOST_KEPT) ? actor.bodies[i] : NONE;
    }

    public int taken(int trade, int k) {
        if (!isKind(k)) {
            return BAD;
        }
        if (!isTrade(trade)) {
            return NOTHING;
        }
        int own = now.kinds[trade];
        int kind = own;
        for (int i = 0; i < KINDS && kind >= 0; i++) {
            if (kind == k) {
                return own;
            }
            kind = ABOVE[kind];
        }
        return CAST;
    }

    public int count(int what) {
        switch (what) {
            case 0: return names;
            case 1: return now.trades;
            case 2: return lawCount;
            case 3: return now.blankCount;
            case 4: return text.length;
            case 5: return actor.began;
            default: return BAD;
        }
    }

    public int tape(int tape, int sort, int n) {
        Tape row = tapeAt(tape);
        if (row == null) {
            return NONE;
        }
        if (sort < Tape.EMPTY || sort > LAST_SORT) {
            return BAD;
        }
        if (sort == Tape.EMPTY) {
            row.become(Tape.EMPTY, 0);
            return 1;
        }
        if (n > MOST_ITEMS) {
            return BAD;
        }
        if (n < 0) {
            return SIZE;
        }
        row.become(sort, n);
        return 1;
    }

    public int item(int tape, int i, long v) {
        Tape row = tapeAt(tape);
        if (row == null) {
            return NONE;
        }
        if (row.sort == Tape.EMPTY) {
            return NOTHING;
        }
        if (!row.hasPlace(i)) {
            return PLACE;
        }
        row.items[i] = Tape.cut(row.sort, v);
        return 1;
    }

    public long read(int tape, int i) {
        Tape row = tapeAt(tape);
        if (row == null || !row.hasPlace(i)) {
            return NO;
        }
        return row.items[i];
    }

    public int shift(int tape, int i, int other, int j, int n) {
        Tape from = tapeAt(tape);
        Tape to = tapeAt(other);
        if (from == null || to == null) {
            return NONE;
        }
        if (from.sort == Tape.EMPTY || to.sort == Tape.EMPTY) {
            return NOTHING;
        }
        if (from.sort != to.sort) {
            return CAST;
        }
        if (!from.hasRun(i, n) || !to.hasRun(j, n)) {
            return PLACE;
        }
        System.arraycopy(from.items, i, to.items, j, n);
        return n;
    }

    /** Goes along a row of NAMES from a place that it has. */
    private int judgeRow(Tape told, int from, int goal) {
        int steps = now.held.mostSteps();
        int hour = 0;
        int before = NONE;
        for (int i = from; i < told.length; i++) {
            int place = i - from;
            int next = (int) told.items[i];
            if (!isName(next) || place > steps) {
                return FAULT - place;
            }
            int more = place == 0 ? now.had[next] : now.hoursBetween(before, next);
            if (more < 0) {
                return place == 0 ? NEVER : FAULT - place;
            }
            hour += more;
            if (next == goal) {
                return hour;
            }
            before = next;
        }
        return ENDED + told.length - from;
    }

    // ---- what several calls need

    private boolean isName(int name) {
        return name >= 0 && name < names;
    }

    private boolean isTrade(int trade) {
        return trade >= 0 && trade < now.trades;
    }

    private boolean isBlank(int i) {
        return i >= 0 && i < now.blankCount;
    }

    private static boolean isLetters(int n) {
        return n >= 1 && n <= MOST_LETTERS;
    }

    private static boolean isHour(int hour) {
        return hour >= 0 && hour <= LAST_HOUR;
    }

    private static boolean isFriday(int friday) {
        return friday >= 0 && friday < FRIDAYS;
    }

    private static boolean isKind(int kind) {
        return kind >= 0 && kind < KINDS;
    }

    private static boolean isParted(int lots) {
        return lots >= 0 && lots <= MOST_PARTED;
    }

    private Tape tapeAt(int i) {
        return i >= 0 && i < TAPES ? tapes[i] : null;
    }

    private int habitOf(int name, int friday) {
        return now.held.habitOf(name, letters[name], friday);
    }

    /** Spreads the NEWS as it is, with nobody SILENT. */
    private void spreadAll() {
        spread.take(now, names);
        spread.run(0);
    }

    /** All that THE IMAGE keeps. */
    private static final class World {
        final int[] joined = new int[MOST_NAMES * MOST_NAMES];
        final int[] had = new int[MOST_NAMES];
        Law held;
        final int[] kinds = new int[MOST_TRADES];
        final int[] buyers = new int[MOST_TRADES];
        final int[] fridays = new int[MOST_TRADES];
        final int[] hours = new int[MOST_TRADES];
        final int[] lots = new int[MOST_TRADES];
        int trades;
        final int[] blanks = new int[MOST_BLANKS];
        int blankCount;

        World(Law held) {
            this.held = held;
            Arrays.fill(had, NEVER);
        }

        void become(World other) {
            System.arraycopy(other.joined, 0, joined, 0, joined.length);
            System.arraycopy(other.had, 0, had, 0, had.length);
            held = other.held;
            System.arraycopy(other.kinds, 0, kinds, 0, kinds.length);
            System.arraycopy(other.buyers, 0, buyers, 0, buyers.length);
            System.arraycopy(other.fridays, 0, fridays, 0, fridays.length);
            System.arraycopy(other.hours, 0, hours, 0, hours.length);
            System.arraycopy(other.lots, 0, lots, 0, lots.length);
            trades = other.trades;
            System.arraycopy(other.blanks, 0, blanks, 0, blanks.length);
            blankCount = other.blankCount;
        }

        int joinBoth(int a, int b, int sort) {
            int before = joined[a * MOST_NAMES + b];
            joined[a * MOST_NAMES + b] = sort;
            joined[b * MOST_NAMES + a] = sort;
            return before;
        }

        /** How long it GOES from a to b; NEVER: not at all. */
        int hoursBetween(int a, int b) {
            int sort = joined[a * MOST_NAMES + b];
            return sort == 0 ? NEVER : held.hoursOf(a, b, sort);
        }

        int addTrade(int kind, int name, int friday, int hour, int n) {
            kinds[trades] = kind;
            buyers[trades] = name;
            fridays[trades] = friday;
            hours[trades] = hour;
            lots[trades] = n;
            trades++;
            return trades - 1;
        }

        int fridaysOf(int name) {
            int days = 0;
            for (int t = 0; t < trades; t++) {
                if (buyers[t] == name) {
                    days |= 1 << fridays[t];
                }
            }
            return days;
        }

        /** Whether there is another TRADE of the same NAME and FRIDAY. */
        boolean hasFellow(int trade) {
            for (int t = 0; t < trades; t++) {
                if (t != trade && buyers[t] == buyers[trade] && fridays[t] == fridays[trade]) {
                    return true;
                }
            }
            return false;
        }
    }

    /** A LAW: CLAUSES; their conditions stand in one row of signs, operands ahead of what joins them. */
    private static final class Law {
        static final int WAY = 0, HABIT = 1, PAPER = 2, WATCH = 3, STEPS = 4, WORDS = 5;
        static final int AND = -1, OR = -2, NOT = -3;

        private final int[] words = new int[MOST_CLAUSES];
        private final int[] numbers = new int[MOST_CLAUSES];
        private final int[] ends = new int[MOST_CLAUSES];
        private int clauses;
        private final int[] signs = new int[MOST_TEXT];
        private int used;

        void clear() {
            clauses = 0;
            used = 0;
        }

        /** A TEST as one number that is 0 or more. */
        static int testSign(int letter, int relation, int number) {
            return (letter * 3 + relation) * 100 + number;
        }

        void addSign(int sign) {
            if (used < signs.length) {
                signs[used] = sign;
                used++;
            }
        }

        /** Ends a CLAUSE: its condition is what has been added since the last one. */
        void endClause(int word, int number) {
            if (clauses < words.length) {
                words[clauses] = word;
                numbers[clauses] = number;
                ends[clauses] = used;
                clauses++;
            }
        }

        int hoursOf(int a, int b, int s) {
            for (int i = 0; i < clauses; i++) {
                if (words[i] == WAY && holds(i, a, b, s, 0, 0)) {
                    return numbers[i];
                }
            }
            return NEVER;
        }

        int habitOf(int a, int l, int f) {
            int sum = 0;
            for (int i = 0; i < clauses; i++) {
                if (words[i] == HABIT && holds(i, a, 0, 0, l, f)) {
                    sum += numbers[i];
                }
            }
            return Math.min(sum, 100);
        }

        int lastOf(int word, int untold) {
            int n = untold;
            for (int i = 0; i < clauses; i++) {
                if (words[i] == word) {
                    n = numbers[i];
                }
            }
            return n;
        }

        int mostSteps() {
            return Math.min(lastOf(STEPS, MOST_STEPS), MOST_STEPS);
        }

        /** The truths at hand are the bits of a stack: 4 brackets and signs deep, it stays far under 32. */
        private boolean holds(int clause, int a, int b, int s, int l, int f) {
            int stack = 0;
            for (int i = clause == 0 ? 0 : ends[clause - 1]; i < ends[clause]; i++) {
                int sign = signs[i];
                int top = stack & 1;
                if (sign == NOT) {
                    stack ^= 1;
                } else if (sign == AND) {
                    stack = stack >> 1 & (top | ~1);
                } else if (sign == OR) {
                    stack = stack >> 1 | top;
                } else {
                    int value = valueOf(sign / 300, a, b, s, l, f);
                    stack = stack << 1 | (passes(value, sign / 100 % 3, sign % 100) ? 1 : 0);
                }
            }
            return (stack & 1) != 0;
        }

        private static int valueOf(int letter, int a, int b, int s, int l, int f) {
            switch (letter) {
                case 0: return a;
                case 1: return b;
                case 2: return s;
                case 3: return l;
                default: return f;
            }
        }

        private static boolean passes(int value, int relation, int number) {
            switch (relation) {
                case 0: return value < number;
                case 1: return value == number;
                default: return value > number;
            }
        }
    }

    /** THE TEXT, and how it is read: whoever finds a FAULT leaves its place in at. */
    private static final class Text {
        private static final String LETTERS = "abslf", RELATIONS = "<=>";
        private static final int DEEPEST = 4;

        private final int[] bytes = new int[MOST_TEXT];
        int length;
        private int at;

        void append(int value) {
            if (length < bytes.length) {
                bytes[length] = value;
                length++;
            }
        }

        /** Reads the whole as a LAW: the place of the FAULT, or NONE if it has none. */
        int readInto(Law law) {
            law.clear();
            at = 0;
            for (int clause = 1; clause <= MOST_CLAUSES; clause++) {
                if (!readClause(law)) {
                    return at;
                }
                if (at >= length) {
                    return NONE;
                }
                if (clause == MOST_CLAUSES || !eats(';')) {
                    return at;
                }
            }
            return at;
        }

        private boolean readClause(Law law) {
            int word = readWord();
            if (word < 0 || !eats(' ')) {
                return false;
            }
            int number = readNumber(3);
            if (number < 0) {
                return false;
            }
            if ((word == Law.WAY || word == Law.HABIT) && (!eats(' ') || !readEither(law, 0))) {
                return false;
            }
            law.endClause(word, number);
            return true;
        }

        private static String spelling(int word) {
            switch (word) {
                case Law.WAY: return "way";
                case Law.HABIT: return "habit";
                case Law.PAPER: return "paper";
                case Law.WATCH: return "watch";
                default: return "steps";
            }
        }

        private int readWord() {
            int farthest = 0;
            for (int word = 0; word < Law.WORDS; word++) {
                String spelled = spelling(word);
                int same = 0;
                while (same < spelled.length() && at + same < length
                        && bytes[at + same] == spelled.charAt(same)) {
                    same++;
                }
                if (same == spelled.length()) {
                    at += same;
                    return word;
                }
                farthest = Math.max(farthest, same);
            }
            // No word begins with one byte more than the word that went on longest.
            at += farthest;
            return NONE;
        }

        private int readNumber(int digits) {
            int number = NONE;
            for (int i = 0; i < digits && at < length && bytes[at] >= '0' && bytes[at] <= '9'; i++) {
                number = Math.max(number, 0) * 10 + bytes[at] - '0';
                at++;
            }
            return number;
        }

        /** E: one of several. */
        private boolean readEither(Law law, int depth) {
            if (!readAll(law, depth)) {
                return false;
            }
            for (int i = 0; i < MOST_TEXT && eats('|'); i++) {
                if (!readAll(law, depth)) {
                    return false;
                }
                law.addSign(Law.OR);
            }
            return true;
        }

        /** T: all of several. */
        private boolean readAll(Law law, int depth) {
            if (!readOne(law, depth)) {
                return false;
            }
            for (int i = 0; i < MOST_TEXT && eats('&'); i++) {
                if (!readOne(law, depth)) {
                    return false;
                }
                law.addSign(Law.AND);
            }
            return true;
        }

        /** F: a TEST, or what stands behind ! or between brackets, within so many others. */
        private boolean readOne(Law law, int depth) {
            int sign = at < length ? bytes[at] : NONE;
            if (sign != '!' && sign != '(') {
                return readTest(law);
            }
            if (depth >= DEEPEST) {
                return false;
            }
            at++;
            if (sign == '(') {
                return readEither(law, depth + 1) && eats(')');
            }
            if (!readOne(law, depth + 1)) {
                return false;
            }
            law.addSign(Law.NOT);
            return true;
        }

        private boolean readTest(Law law) {
            int letter = readSign(LETTERS);
            if (letter < 0) {
                return false;
            }
            int relation = readSign(RELATIONS);
            if (relation < 0) {
                return false;
            }
            int number = readNumber(2);
            if (number < 0) {
                return false;
            }
            law.addSign(Law.testSign(letter, relation, number));
            return true;
        }

        /** Which of some signs comes next; it is passed then. */
        private int readSign(String signs) {
            for (int i = 0; i < signs.length() && at < length; i++) {
                if (bytes[at] == signs.charAt(i)) {
                    at++;
                    return i;
                }
            }
            return NONE;
        }

        private boolean eats(char sign) {
            if (at < length && bytes[at] == sign) {
                at++;
                return true;
            }
            return false;
        }
    }

    /** How NEWS comes from one NAME to another, step by step. */
    private static final class Spread {
        /** Later than any HOUR that NEWS can come at. */
        private static final int FAR = 1000000;

        private final int[] goes = new int[MOST_NAMES * MOST_NAMES];
        private final int[] had = new int[MOST_NAMES];
        private final int[] hours = new int[MOST_NAMES];
        private final int[] later = new int[MOST_NAMES];
        /** How long it takes to the goal in just so many steps: a row of NAMES for each number of steps. */
        private final int[] left = new int[(MOST_STEPS + 1) * MOST_NAMES];
        final int[] row = new int[MOST_STEPS + 1];
        private int names;
        private int steps;

        /** Looks at how things stand; what is asked then goes by that. */
        void take(World world, int names) {
            this.names = names;
            steps = world.held.mostSteps();
            for (int a = 0; a < names; a++) {
                had[a] = world.had[a] < 0 ? FAR : world.had[a];
                for (int b = 0; b < names; b++) {
                    int lasting = world.hoursBetween(a, b);
                    goes[a * MOST_NAMES + b] = lasting < 0 ? FAR : lasting;
                }
            }
        }

        /** Finds the least HOUR of each NAME, when some (bits) pass nothing on. */
        void run(int silent) {
            System.arraycopy(had, 0, hours, 0, MOST_NAMES);
            boolean changed = true;
            for (int step = 0; step < steps && changed; step++) {
                changed = runStep(silent);
            }
        }

        /** One step more for all at once; answers whether anyone knows sooner by it. */
        private boolean runStep(int silent) {
            System.arraycopy(hours, 0, later, 0, MOST_NAMES);
            boolean changed = false;
            for (int a = 0; a < names; a++) {
                if ((silent >> a & 1) != 0 || later[a] >= FAR) {
                    continue;
                }
                for (int b = 0; b < names; b++) {
                    int hour = later[a] + goes[a * MOST_NAMES + b];
                    if (hour < hours[b]) {
                        hours[b] = hour;
                        changed = true;
                    }
                }
            }
            return changed;
        }

        int hourOf(int name) {
            return hours[name] < FAR ? hours[name] : NEVER;
        }

        boolean knownBy(int name, int hour) {
            return hours[name] <= hour;
        }

        /** The NAMES that KNOW by an HOUR, as bits. */
        int knownByAll(int hour) {
            int set = 0;
            for (int name = 0; name < names; name++) {
                if (knownBy(name, hour)) {
                    set |= 1 << name;
                }
            }
            return set;
        }

        /** Puts the WAY to a NAME in the row; answers how many NAMES it has, 0 if there is none. */
        int rowTo(int goal) {
            run(0);
            int hour = hours[goal];
            if (hour >= FAR) {
                return 0;
            }
            lookBack(goal);
            for (int used = 0; used <= steps; used++) {
                for (int name = 0; name < names; name++) {
                    if (had[name] + left[used * MOST_NAMES + name] == hour) {
                        walk(name, used);
                        return used + 1;
                    }
                }
            }
            return 0;
        }

        private void lookBack(int goal) {
            Arrays.fill(left, FAR);
            left[goal] = 0;
            for (int used = 1; used <= steps; used++) {
                for (int a = 0; a < names; a++) {
                    int best = FAR;
                    for (int b = 0; b < names; b++) {
                        int rest = left[(used - 1) * MOST_NAMES + b];
                        best = Math.min(best, goes[a * MOST_NAMES + b] + rest);
                    }
                    left[used * MOST_NAMES + a] = best;
                }
            }
        }

        /** The first row of NAMES that takes no longer than it must, from a NAME in so many steps. */
        private void walk(int start, int used) {
            int at = start;
            row[0] = start;
            for (int step = 1; step <= used; step++) {
                int due = left[(used - step + 1) * MOST_NAMES + at];
                int next = 0;
                for (int b = names - 1; b >= 0; b--) {
                    if (goes[at * MOST_NAMES + b] + left[(used - step) * MOST_NAMES + b] == due) {
                        next = b;
                    }
                }
                row[step] = next;
                at = next;
            }
        }
    }

    /** How likely it is to be there on so many FRIDAYS: a fraction. */
    private static final class Odds {
        /** Out of below: how likely it is to be there on just so many FRIDAYS. */
        private final long[] weights = new long[FRIDAYS + 1];
        private int days;
        long above;
        long below;

        void start() {
            Arrays.fill(weights, 0L);
            weights[0] = 1;
            days = 0;
            below = 1;
        }

        /** One FRIDAY more; with nine of them, all weights together are 10 to the 18, which a long holds. */
        void addFriday(int habit) {
            if (days >= FRIDAYS) {
                return;
            }
            days++;
            for (int there = days; there >= 0; there--) {
                long came = there == 0 ? 0 : weights[there - 1] * habit;
                weights[there] = weights[there] * (100 - habit) + came;
            }
            below *= 100;
        }

        void atLeast(int there) {
            above = 0;
            for (int i = Math.max(there, 0); i <= days; i++) {
                above += weights[i];
            }
        }

        /** So many times as likely, 1 at most. */
        void multiply(int times) {
            above = Math.min(above * times, below);
        }

        void reduce() {
            long greater = below;
            long smaller = above;
            for (int i = 0; i < 200 && smaller != 0; i++) {
                long rest = greater % smaller;
                greater = smaller;
                smaller = rest;
            }
            if (greater != 0) {
                above /= greater;
                below /= greater;
            }
        }
    }

    /** Does what a TRADE of its KIND does, and keeps THE TRACE. */
    private static final class Actor {
        static final int MOST_KEPT = 20;
        /** No KIND goes nearly as deep. */
        private static final int DEEPEST = 40;
        private static final int BUYS = 0, KNOWS = 1, TELLS = 2;
        /** The bodies of each KIND, for the three acts; 0: it has none. */
        private static final int[] BODIES = {
            10, 11, 12,
            0, 20, 0,
            30, 0, 0,
            0, 0, 40,
            50, 51, 0,
            0, 0, 60,
            71, 70, 0,
        };

        final int[] bodies = new int[MOST_KEPT];
        int began;
        private int number;
        private int kind;
        private int lots;

        void forget() {
            began = 0;
        }

        void takeOn(int number, int kind, int lots) {
            this.number = number;
            this.kind = kind;
            this.lots = lots;
        }

        int answer(int act, int x) {
            return perform(kind, act, x, 0);
        }

        /** Runs the body of a KIND, or of the next KIND above that has one. */
        private int perform(int from, int act, int x, int depth) {
            if (depth > DEEPEST) {
                return 0;
            }
            int owner = ownerOf(from, act);
            int above = Math.max(ABOVE[owner], TRADE);
            int body = BODIES[owner * ACTS + act];
            int deeper = depth + 1;
            begin(body);
            switch (body) {
                case 10: return x + number;
                case 11: return perform(kind, BUYS, x, deeper) - lots;
                case 12: return perform(kind, KNOWS, x, deeper) * 2;
                case 20: return perform(above, KNOWS, x, deeper) ^ 6;
                case 30: return perform(above, BUYS, x * 3, deeper);
                case 40: return perform(above, TELLS, x, deeper) + perform(kind, KNOWS, 1, deeper);
                case 50: return -perform(above, BUYS, x, deeper);
                case 51: return perform(above, KNOWS, x + 1, deeper);
                case 60: return perform(above, TELLS, x - number, deeper);
                case 70: return perform(above, KNOWS, x, deeper) + perform(above, BUYS, 2, deeper);
                case 71: return perform(above, BUYS, x, deeper) ^ lots;
                default: return 0;
            }
        }

        private static int ownerOf(int from, int act) {
            int owner = from;
            for (int i = 0; i < KINDS && owner > TRADE && BODIES[owner * ACTS + act] == 0; i++) {
                owner = ABOVE[owner];
            }
            return owner;
        }

        private void begin(int body) {
            if (began < bodies.length) {
                bodies[began] = body;
            }
            began++;
        }
    }

    /** A TAPE. */
    private static final class Tape {
        static final int EMPTY = -1, BYTES = 0, SHORTS = 1, INTS = 2, LONGS = 3;

        int sort = EMPTY;
        int length;
        final long[] items = new long[MOST_ITEMS];

        void become(int sort, int n) {
            this.sort = sort;
            length = n;
            Arrays.fill(items, 0L);
        }

        boolean hasPlace(int i) {
            return i >= 0 && i < length;
        }

        /** Whether n items stand from i on; written so that no sum can wrap. */
        boolean hasRun(int i, int n) {
            return i >= 0 && n >= 0 && i <= length && n <= length - i;
        }

        /** What an item of a sort keeps of a number. */
        static long cut(int sort, long v) {
            switch (sort) {
                case BYTES: return (byte) v;
                case SHORTS: return (short) v;
                case INTS: return (int) v;
                case LONGS: return v;
                default: return v != 0 ? 1 : 0;
            }
        }
    }
}
