import java.lang.reflect.Array;
import java.math.BigInteger;
import java.util.ArrayList;
import java.util.Comparator;
import java.util.HashMap;
import java.util.HashSet;
import java.util.List;
import java.util.Map;
import java.util.Set;
import java.util.TreeSet;
import java.util.regex.Matcher;
import java.util.regex.Pattern;

/**
 * The document told a second time, by other means than the program's: all ways are listed, all
 * ways to fill blanks are tried, laws are read by patterns, kinds are classes of Java, tapes are
 * its arrays. Slow, and only for comparing.
 */
final class PlainModel {
    private static final Pattern CLAUSE = Pattern.compile("(way|habit|paper|watch|steps) ([0-9]{1,3})(?: (.*))?");
    private static final Pattern TEST = Pattern.compile("([abslf])([<=>])([0-9]{1,2})");
    private static final String[] SMALLEST = {"way 1 a=1", "habit 1 a=1", "paper 1", "watch 1", "steps 1"};

    private record Told(int hour, List<Integer> row) { }

    private static final class Things {
        Map<Set<Integer>, Integer> joined = new HashMap<>();
        Map<Integer, Integer> had = new HashMap<>();
        List<Trade> trades = new ArrayList<>();
        List<Integer> blanks = new ArrayList<>();
        String law = "";

        Things copy() {
            Things c = new Things();
            c.joined.putAll(joined);
            c.had.putAll(had);
            c.trades.addAll(trades);
            c.blanks.addAll(blanks);
            c.law = law;
            return c;
        }
    }

    private final List<Integer> letters = new ArrayList<>();
    private String text = "";
    private int laws = 0;
    private Things things = new Things();
    private Things image = null;
    private static List<Integer> trace = new ArrayList<>();
    private final Object[] tapes = new Object[6];

    PlainModel() {
        trace = new ArrayList<>();
    }

    private boolean isThere(int i) {
        return 0 <= i && i < letters.size();
    }

    private static boolean in(int x, int least, int most) {
        return least <= x && x <= most;
    }

    // ---- laws

    private static boolean isLaw(String s) {
        String[] clauses = s.split(";", -1);
        if (clauses.length > 10) {
            return false;
        }
        for (String clause : clauses) {
            Matcher m = CLAUSE.matcher(clause);
            if (!m.matches()) {
                return false;
            }
            boolean asks = m.group(1).equals("way") || m.group(1).equals("habit");
            if (asks != (m.group(3) != null) || asks && !isCondition(m.group(3))) {
                return false;
            }
        }
        return true;
    }

    private static boolean isCondition(String s) {
        if (s.indexOf('T') >= 0) {
            return false;
        }
        String rest = TEST.matcher(s).replaceAll("T");
        if (!shallow(rest)) {
            return false;
        }
        String before = "";
        while (!before.equals(rest)) {
            before = rest;
            rest = rest.replace("(T)", "T").replace("!T", "T").replaceAll("T[&|]T", "T");
        }
        return rest.equals("T");
    }

    private static boolean shallow(String s) {
        List<Integer> open = new ArrayList<>();
        int depth = 0;
        int nots = 0;
        for (char c : s.toCharArray()) {
            if ((c == '!' || c == '(') && depth + nots >= 4) {
                return false;
            }
            if (c == '!') {
                nots++;
            } else if (c == '(') {
                open.add(nots + 1);
                depth += nots + 1;
                nots = 0;
            } else if (c == ')') {
                if (open.isEmpty()) {
                    return false;
                }
                depth -= open.remove(open.size() - 1);
                nots = 0;
            } else if (c == 'T') {
                nots = 0;
            }
        }
        return true;
    }

    private static boolean begins(String s) {
        for (String clause : SMALLEST) {
            for (int from = 0; from <= clause.length(); from++) {
                String closing = clause.substring(from);
                for (int brackets = 0; brackets <= 4; brackets++) {
                    if (isLaw(s + closing + ")".repeat(brackets))) {
                        return true;
                    }
                }
            }
        }
        return false;
    }

    private static int fault(String s) {
        int length = 0;
        while (length < s.length() && begins(s.substring(0, length + 1))) {
            length++;
        }
        return length;
    }

    private static int halvedFault(String s) {
        int fits = 0;
        int fails = s.length() + 1;
        while (fails - fits > 1) {
            int half = (fits + fails) / 2;
            if (begins(s.substring(0, half))) {
                fits = half;
            } else {
                fails = half;
            }
        }
        return fits;
    }

    private static List<String> parts(String s, char between) {
        List<String> found = new ArrayList<>();
        int depth = 0;
        int from = 0;
        for (int i = 0; i < s.length(); i++) {
            char c = s.charAt(i);
            depth += c == '(' ? 1 : c == ')' ? -1 : 0;
            if (c == between && depth == 0) {
                found.add(s.substring(from, i));
                from = i + 1;
            }
        }
        found.add(s.substring(from));
        return found;
    }

    private static boolean so(String s, Map<Character, Integer> values) {
        List<String> either = parts(s, '|');
        if (either.size() > 1) {
            return either.stream().anyMatch(t -> so(t, values));
        }
        List<String> all = parts(s, '&');
        if (all.size() > 1) {
            return all.stream().allMatch(t -> so(t, values));
        }
        if (s.charAt(0) == '!') {
            return !so(s.substring(1), values);
        }
        if (s.charAt(0) == '(') {
            return so(s.substring(1, s.length() - 1), values);
        }
        int compared = Integer.compare(values.getOrDefault(s.charAt(0), 0), Integer.parseInt(s.substring(2)));
        return compared == "<=>".indexOf(s.charAt(1)) - 1;
    }

    private List<Matcher> clauses(String word) {
        List<Matcher> found = new ArrayList<>();
        for (String clause : things.law.split(";")) {
            Matcher m = CLAUSE.matcher(clause);
            if (m.matches() && m.group(1).equals(word)) {
                found.add(m);
            }
        }
        return found;
    }

    private int last(String word, int without) {
        List<Matcher> all = clauses(word);
        return all.isEmpty() ? without : Integer.parseInt(all.get(all.size() - 1).group(2));
    }

    private Integer lasts(int a, int b) {
        Integer sort = things.joined.get(Set.of(a, b));
        if (sort == null) {
            return null;
        }
        for (Matcher m : clauses("way")) {
            if (so(m.group(3), Map.of('a', a, 'b', b, 's', sort))) {
                return Integer.valueOf(m.group(2));
            }
        }
        return null;
    }

    private int often(int name, int friday) {
        int sum = 0;
        for (Matcher m : clauses("habit")) {
            if (so(m.group(3), Map.of('a', name, 'l', letters.get(name), 'f', friday))) {
                sum += Integer.parseInt(m.group(2));
            }
        }
        return Math.min(100, sum);
    }

    // ---- how news comes

    private List<Told> allWays(int goal) {
        Integer[][] lasts = new Integer[8][8];
        for (int a = 0; a < letters.size(); a++) {
            for (int b = 0; b < letters.size(); b++) {
                lasts[a][b] = a == b ? null : lasts(a, b);
            }
        }
        List<Told> found = new ArrayList<>();
        List<Integer> row = new ArrayList<>();
        row.add(goal);
        backwards(lasts, row, 0, Math.min(9, last("steps", 9)), found);
        return found;
    }

    private void backwards(Integer[][] lasts, List<Integer> row, int hours, int steps, List<Told> found) {
        int first = row.get(0);
        if (things.had.containsKey(first)) {
            found.add(new Told(things.had.get(first) + hours, List.copyOf(row)));
        }
        for (int a = 0; a < letters.size() && row.size() <= steps; a++) {
            if (!row.contains(a) && lasts[a][first] != null) {
                row.add(0, a);
                backwards(lasts, row, hours + lasts[a][first], steps, found);
                row.remove(0);
            }
        }
    }

    private int sooner(int goal, Set<Integer> silent) {
        int least = Integer.MAX_VALUE;
        for (Told told : allWays(goal)) {
            boolean comes = true;
            for (int i = 0; i + 1 < told.row.size(); i++) {
                comes &= !silent.contains(told.row.get(i));
            }
            least = comes ? Math.min(least, told.hour) : least;
        }
        return least;
    }

    private static int compareRows(Told x, Told y) {
        for (int i = 0; i < x.row.size(); i++) {
            if (!x.row.get(i).equals(y.row.get(i))) {
                return x.row.get(i) - y.row.get(i);
            }
        }
        return 0;
    }

    private List<Integer> best(int goal) {
        return allWays(goal).stream()
            .min(Comparator.comparingInt((Told t) -> t.hour).thenComparingInt(t -> t.row.size())
                .thenComparing(PlainModel::compareRows))
            .map(t -> t.row).orElse(List.of());
    }

    private Set<Integer> knowing(int hour, Set<Integer> silent) {
        Set<Integer> found = new TreeSet<>();
        for (int name = 0; name < letters.size(); name++) {
            if (sooner(name, silent) <= hour) {
                found.add(name);
            }
        }
        return found;
    }

    int knows(int name) {
        if (!isThere(name)) {
            return -1;
        }
        int hour = sooner(name, Set.of());
        return hour == Integer.MAX_VALUE ? -5 : hour;
    }

    int way(int name, int i) {
        if (!isThere(name)) {
            return -1;
        }
        List<Integer> row = best(name);
        return i == -1 ? row.size() : 0 <= i && i < row.size() ? row.get(i) : -1;
    }

    int silent(int name, int hour) {
        if (!isThere(name)) {
            return -1;
        }
        if (!in(hour, 0, 99)) {
            return -2;
        }
        Set<Integer> tellers = new HashSet<>();
        for (Told told : allWays(name)) {
            if (told.hour <= hour) {
                int bits = 0;
                for (int i = 0; i + 1 < told.row.size(); i++) {
                    bits |= 1 << told.row.get(i);
                }
                tellers.add(bits);
            }
        }
        if (tellers.contains(0)) {
            return -5;
        }
        int found = -5;
        for (int set = (1 << letters.size()) - 1; set >= 0; set--) {
            final int silent = set;
            boolean hits = (set >> name & 1) == 0 && tellers.stream().allMatch(t -> (t & silent) != 0);
            if (hits && (found < 0 || Integer.bitCount(set) <= Integer.bitCount(found))) {
                found = set;
            }
        }
        return found;
    }

    // ---- names, news

    int name(int n) {
        if (!in(n, 1, 12)) {
            return -2;
        }
        if (letters.size() == 8) {
            return -4;
        }
        letters.add(n);
        return letters.size() - 1;
    }

    int join(int a, int b, int sort) {
        if (!isThere(a) || !isThere(b)) {
            return -1;
        }
        if (a == b || !in(sort, 0, 5)) {
            return -2;
        }
        Integer was = sort == 0 ? things.joined.remove(Set.of(a, b)) : things.joined.put(Set.of(a, b), sort);
        return was == null ? 0 : was;
    }

    int news(int name, int hour) {
        if (!isThere(name)) {
            return -1;
        }
        if (!in(hour, -1, 99)) {
            return -2;
        }
        Integer was = hour == -1 ? things.had.remove(name) : things.had.put(name, hour);
        return was == null ? -5 : was;
    }

    int feed(int bytes, int n) {
        if (!in(n, 0, 4)) {
            return -2;
        }
        if (text.length() + n > 100) {
            return -4;
        }
        byte[] all = java.nio.ByteBuffer.allocate(4).putInt(bytes).array();
        for (int i = 4 - n; i < 4; i++) {
            text += (char) (all[i] & 0xFF);
        }
        return text.length();
    }

    int law() {
        if (laws == 6) {
            return -4;
        }
        String read = text;
        text = "";
        if (!isLaw(read)) {
            return -10 - (read.length() < 12 ? fault(read) : halvedFault(read));
        }
        things.law = read;
        return laws++;
    }

    int goes(int a, int b) {
        if (!isThere(a) || !isThere(b)) {
            return -1;
        }
        if (a == b) {
            return -2;
        }
        Integer lasts = lasts(a, b);
        return lasts == null ? -5 : lasts;
    }

    int habit(int name, int friday) {
        return !isThere(name) || !in(friday, 0, 8) ? -1 : often(name, friday);
    }

    // ---- trades: the kinds are classes, so that Java itself finds their bodies

    private static class Trade {
        final int i, name, friday, hour, n;

        Trade(int i, int name, int friday, int hour, int n) {
            this.i = i;
            this.name = name;
            this.friday = friday;
            this.hour = hour;
            this.n = n;
        }

        int kind() {
            return 0;
        }

        int buys(int x) {
            trace.add(10);
            return x + i;
        }

        int knows(int x) {
            trace.add(11);
            return buys(x) - n;
        }

        int tells(int x) {
            trace.add(12);
            return knows(x) * 2;
        }
    }

    private static class Usual extends Trade {
        Usual(int i, int name, int friday, int hour, int n) {
            super(i, name, friday, hour, n);
        }

        int kind() {
            return 1;
        }

        int knows(int x) {
            trace.add(20);
            return super.knows(x) ^ 6;
        }
    }

    private static class Heard extends Trade {
        Heard(int i, int name, int friday, int hour, int n) {
            super(i, name, friday, hour, n);
        }

        int kind() {
            return 2;
        }

        int buys(int x) {
            trace.add(30);
            return super.buys(x * 3);
        }
    }

    private static class Known extends Trade {
        Known(int i, int name, int friday, int hour, int n) {
            super(i, name, friday, hour, n);
        }

        int kind() {
            return 3;
        }

        int tells(int x) {
            trace.add(40);
            return super.tells(x) + knows(1);
        }
    }

    private static class Lucky extends Usual {
        Lucky(int i, int name, int friday, int hour, int n) {
            super(i, name, friday, hour, n);
        }

        int kind() {
            return 4;
        }

        int buys(int x) {
            trace.add(50);
            return -super.buys(x);
        }

        int knows(int x) {
            trace.add(51);
            return super.knows(x + 1);
        }
    }

    private static class Handed extends Known {
        Handed(int i, int name, int friday, int hour, int n) {
            super(i, name, friday, hour, n);
        }

        int kind() {
            return 5;
        }

        int tells(int x) {
            trace.add(60);
            return super.tells(x - i);
        }
    }

    private static class Split extends Known {
        Split(int i, int name, int friday, int hour, int n) {
            super(i, name, friday, hour, n);
        }

        int kind() {
            return 6;
        }

        int knows(int x) {
            trace.add(70);
            return super.knows(x) + super.buys(2);
        }

        int buys(int x) {
            trace.add(71);
            return super.buys(x) ^ n;
        }
    }

    private static final Class<?>[] KINDS = {
        Trade.class, Usual.class, Heard.class, Known.class, Lucky.class, Handed.class, Split.class,
    };

    private Trade tradeAt(int i) {
        return 0 <= i && i < things.trades.size() ? things.trades.get(i) : null;
    }

    int trade(int kind, int name, int friday, int hour, int lots) {
        if (!in(kind, 0, 6) || !isThere(name) || !in(friday, 0, 8)) {
            return -1;
        }
        if (!in(hour, 0, 99) || !in(lots, 1, 99)) {
            return -2;
        }
        int i = things.trades.size();
        if (i == 16) {
            return -4;
        }
        things.trades.add(switch (kind) {
            case 0 -> new Trade(i, name, friday, hour, lots);
            case 1 -> new Usual(i, name, friday, hour, lots);
            case 2 -> new Heard(i, name, friday, hour, lots);
            case 3 -> new Known(i, name, friday, hour, lots);
            case 4 -> new Lucky(i, name, friday, hour, lots);
            case 5 -> new Handed(i, name, friday, hour, lots);
            default -> new Split(i, name, friday, hour, lots);
        });
        return i;
    }

    private boolean explains(int kind, Trade t) {
        return switch (kind) {
            case 0 -> true;
            case 1 -> often(t.name, t.friday) > 0;
            case 2 -> t.hour >= last("paper", 999);
            case 3 -> sooner(t.name, Set.of()) <= t.hour;
            case 4 -> often(t.name, t.friday) >= 50;
            case 5 -> explains(3, t) && !things.had.containsKey(t.name);
            default -> explains(3, t) && t.n < last("watch", 999)
                && things.trades.stream().anyMatch(u -> u != t && u.name == t.name && u.friday == t.friday);
        };
    }

    int of(int trade, int what) {
        Trade t = tradeAt(trade);
        if (t == null || !in(what, 0, 5)) {
            return -1;
        }
        if (what < 5) {
            return new int[] {t.kind(), t.name, t.friday, t.hour, t.n}[what];
        }
        int bits = 0;
        for (int kind = 0; kind < 7; kind++) {
            bits += explains(kind, t) ? 1 << kind : 0;
        }
        return bits;
    }

    int sure(int what) {
        if (!in(what, 0, 1)) {
            return -1;
        }
        int bits = 0;
        for (Trade t : things.trades) {
            boolean counts = what == 1 ? !explains(t.kind(), t)
                : !explains(1, t) && !explains(2, t) && explains(3, t);
            bits += counts ? 1 << t.i : 0;
        }
        return bits;
    }

    private Set<Integer> days(int name) {
        Set<Integer> found = new TreeSet<>();
        for (Trade t : things.trades) {
            if (t.name == name) {
                found.add(t.friday);
            }
        }
        return found;
    }

    private static int bits(Iterable<Integer> set) {
        int bits = 0;
        for (int i : set) {
            bits |= 1 << i;
        }
        return bits;
    }

    int fridays(int name) {
        return isThere(name) ? bits(days(name)) : -1;
    }

    /** Out of 100 to the n: every set of fridays on which it may be there, one by one. */
    private BigInteger chance(int name, int n) {
        long there = days(name).stream().filter(f -> f < n).count();
        BigInteger sum = BigInteger.ZERO;
        for (int set = 0; set < 1 << n; set++) {
            if (Integer.bitCount(set) >= there) {
                BigInteger one = BigInteger.ONE;
                for (int f = 0; f < n; f++) {
                    int often = often(name, f);
                    one = one.multiply(BigInteger.valueOf((set >> f & 1) == 1 ? often : 100 - often));
                }
                sum = sum.add(one);
            }
        }
        return sum;
    }

    long again(int name, int n, int what, int part) {
        if (!isThere(name) || !in(n, 0, 9) || !in(what, 0, 1) || !in(part, 0, 1)) {
            return Long.MIN_VALUE;
        }
        BigInteger below = BigInteger.valueOf(100).pow(n);
        BigInteger above = chance(name, n);
        if (what == 1) {
            above = above.multiply(BigInteger.valueOf(letters.size())).min(below);
        }
        BigInteger common = above.gcd(below);
        return (part == 0 ? above : below).divide(common).longValueExact();
    }

    int oddest(int n) {
        if (letters.isEmpty()) {
            return -1;
        }
        if (!in(n, 0, 9)) {
            return -2;
        }
        int found = 0;
        for (int name = 1; name < letters.size(); name++) {
            if (chance(name, n).compareTo(chance(found, n)) < 0) {
                found = name;
            }
        }
        return found;
    }

    int ring(int what) {
        if (!in(what, 0, 1)) {
            return -1;
        }
        int pairs = 0;
        int greatest = 0;
        for (int set = 0; set < 1 << letters.size(); set++) {
            Set<Set<Integer>> unlike = new HashSet<>();
            for (int name = 0; name < letters.size(); name++) {
                if ((set >> name & 1) == 1) {
                    unlike.add(days(name));
                }
            }
            boolean alike = Integer.bitCount(set) > 1 && unlike.size() == 1 && !unlike.contains(Set.of());
            pairs += alike && Integer.bitCount(set) == 2 ? 1 : 0;
            greatest = alike && Integer.bitCount(set) > Integer.bitCount(greatest) ? set : greatest;
        }
        return what == 0 ? pairs : greatest;
    }

    // ---- lots, asking, blanks

    private int buyers(int lots, int knowing, int watch) {
        for (int c = 0; c <= knowing; c++) {
            if (c * Math.max(0, watch - 1) >= lots) {
                return c;
            }
        }
        return -5;
    }

    int parted(int lots, int hour) {
        if (!in(lots, 0, 999) || !in(hour, 0, 99)) {
            return -2;
        }
        return buyers(lots, knowing(hour, Set.of()).size(), last("watch", 999));
    }

    int watch(int lots, int hour, int k) {
        if (!in(lots, 0, 999) || !in(hour, 0, 99) || !in(k, 0, 8)) {
            return -2;
        }
        int knowing = knowing(hour, Set.of()).size();
        for (int watch = 1; watch <= 999; watch++) {
            int needed = buyers(lots, knowing, watch);
            if (needed >= 0 && needed <= k) {
                return watch;
            }
        }
        return -5;
    }

    int ask(int hour) {
        if (letters.isEmpty()) {
            return -1;
        }
        if (!in(hour, 0, 99)) {
            return -2;
        }
        Set<Integer> before = knowing(hour, Set.of());
        int found = 0;
        int most = -1;
        for (int name = 0; name < letters.size(); name++) {
            Set<Integer> lost = new HashSet<>(before);
            lost.removeAll(knowing(hour, Set.of(name)));
            lost.remove(name);
            if (lost.size() > most) {
                most = lost.size();
                found = name;
            }
        }
        return found;
    }

    int blank(int n) {
        if (n == -1) {
            things.blanks.clear();
            return 0;
        }
        if (!in(n, 1, 12)) {
            return -2;
        }
        if (things.blanks.size() == 6) {
            return -4;
        }
        things.blanks.add(n);
        return things.blanks.size();
    }

    private void fill(List<Integer> names, List<List<Integer>> found) {
        if (names.size() == things.blanks.size()) {
            found.add(List.copyOf(names));
            return;
        }
        for (int name = 0; name < letters.size(); name++) {
            if (!names.contains(name) && letters.get(name).equals(things.blanks.get(names.size()))) {
                names.add(name);
                fill(names, found);
                names.remove(names.size() - 1);
            }
        }
    }

    private List<List<Integer>> allFillings() {
        List<List<Integer>> found = new ArrayList<>();
        fill(new ArrayList<>(), found);
        return found;
    }

    int fills(int i) {
        if (i == -1) {
            return allFillings().size();
        }
        if (!in(i, 0, things.blanks.size() - 1)) {
            return -1;
        }
        int bits = 0;
        for (int name = 0; name < letters.size(); name++) {
            bits += letters.get(name).equals(things.blanks.get(i)) ? 1 << name : 0;
        }
        return bits;
    }

    int filled(int i) {
        if (!in(i, 0, things.blanks.size() - 1)) {
            return -1;
        }
        Set<Integer> names = new HashSet<>();
        for (List<Integer> filling : allFillings()) {
            names.add(filling.get(i));
        }
        return names.size() == 1 ? names.iterator().next() : -5;
    }

    // ---- judging, the image, acts, tapes

    int judge(int tape, int i, int name) {
        if (!in(tape, 0, 5) || !isThere(name)) {
            return -1;
        }
        if (tapes[tape] == null) {
            return 1000;
        }
        if (!(tapes[tape] instanceof byte[] row)) {
            return -12;
        }
        int hour = 0;
        int looked = 0;
        for (int p = i; p >= 0 && p < row.length; p++) {
            if (!isThere(row[p])) {
                return -10 - looked;
            }
            if (looked == 0 && !things.had.containsKey((int) row[p])) {
                return -5;
            }
            Integer more = looked == 0 ? things.had.get((int) row[p])
                : row[p] == row[p - 1] || looked > last("steps", 9) || looked > 9 ? null
                : lasts(row[p - 1], row[p]);
            if (more == null) {
                return -10 - looked;
            }
            hour += more;
            looked++;
            if (row[p] == name) {
                return hour;
            }
        }
        return 1000 + looked;
    }

    int image() {
        image = things.copy();
        return things.trades.size();
    }

    int undo() {
        if (image == null) {
            return -3;
        }
        things = image.copy();
        return things.trades.size();
    }

    int act(int trade, int act, int x) {
        trace.clear();
        Trade t = tradeAt(trade);
        if (t == null) {
            return 0;
        }
        return switch (act) {
            case 0 -> t.buys(x);
            case 1 -> t.knows(x);
            case 2 -> t.tells(x);
            default -> 0;
        };
    }

    int trace(int i) {
        return 0 <= i && i < 20 && i < trace.size() ? trace.get(i) : -1;
    }

    int taken(int trade, int k) {
        if (!in(k, 0, 6)) {
            return -2;
        }
        Trade t = tradeAt(trade);
        return t == null ? -11 : KINDS[k].isInstance(t) ? t.kind() : -12;
    }

    int count(int what) {
        return in(what, 0, 5)
            ? new int[] {letters.size(), things.trades.size(), laws, things.blanks.size(), text.length(),
                trace.size()}[what]
            : -2;
    }

    int tape(int tape, int sort, int n) {
        if (!in(tape, 0, 5)) {
            return -1;
        }
        if (!in(sort, -1, 4) || sort != -1 && n > 60) {
            return -2;
        }
        if (sort != -1 && n < 0) {
            return -14;
        }
        Class<?>[] sorts = {byte.class, short.class, int.class, long.class, boolean.class};
        tapes[tape] = sort == -1 ? null : Array.newInstance(sorts[sort], n);
        return 1;
    }

    int item(int tape, int i, long v) {
        if (!in(tape, 0, 5)) {
            return -1;
        }
        if (tapes[tape] == null) {
            return -11;
        }
        if (!in(i, 0, Array.getLength(tapes[tape]) - 1)) {
            return -13;
        }
        if (tapes[tape] instanceof byte[] row) {
            row[i] = (byte) v;
        } else if (tapes[tape] instanceof short[] row) {
            row[i] = (short) v;
        } else if (tapes[tape] instanceof int[] row) {
            row[i] = (int) v;
        } else if (tapes[tape] instanceof long[] row) {
            row[i] = v;
        } else {
            Array.setBoolean(tapes[tape], i, v != 0);
        }
        return 1;
    }

    long read(int tape, int i) {
        if (!in(tape, 0, 5) || tapes[tape] == null || !in(i, 0, Array.getLength(tapes[tape]) - 1)) {
            return Long.MIN_VALUE;
        }
        return tapes[tape] instanceof boolean[] row ? row[i] ? 1 : 0 : Array.getLong(tapes[tape], i);
    }

    int shift(int tape, int i, int other, int j, int n) {
        if (!in(tape, 0, 5) || !in(other, 0, 5)) {
            return -1;
        }
        if (tapes[tape] == null || tapes[other] == null) {
            return -11;
        }
        if (tapes[tape].getClass() != tapes[other].getClass()) {
            return -12;
        }
        try {
            System.arraycopy(tapes[tape], i, tapes[other], j, n);
            return n;
        } catch (IndexOutOfBoundsException e) {
            return -13;
        }
    }
}
