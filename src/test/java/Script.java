import java.lang.reflect.InvocationTargetException;
import java.lang.reflect.Method;
import java.util.ArrayList;
import java.util.Arrays;
import java.util.HashMap;
import java.util.List;
import java.util.Map;
import java.util.Set;
import java.util.regex.Matcher;
import java.util.regex.Pattern;

/**
 * Runs of calls on a new object, written as text, for one sentence of the document each.
 *
 * <pre>
 * name(1) = 0              a call and the answer that is due (without = any will do)
 * 8 times name(1)          a call several times
 * law "way 1 a=1" = 0      the text is fed, four bytes a call, and made a law
 * feed "way" = 3           the text is fed
 * way(3) = 0 1 3           the whole of a way, and that it ends there
 * trace = 11 10            the whole of the trace, and that it ends there (or none)
 * </pre>
 *
 * Numbers may have names (NONE, MAX ..); {0 2} is the bits 0 and 2. Whatever call is refused, or
 * only asks, is looked at for what the document says of all of them: that it changes nothing.
 */
final class Script {
    static final int MOST_CALLS = 512;
    private static final Pattern CALL = Pattern.compile("(\\w+)\\((.*)\\)");
    private static final Pattern TIMES = Pattern.compile("(\\d+) times (.*)");
    private static final Pattern TOLD = Pattern.compile("(law|feed) \"(.*)\"");
    private static final Pattern WHOLE = Pattern.compile("way\\((\\w+)\\)|trace");
    private static final Map<String, Long> NAMED = new HashMap<>();
    private static final Set<String> ASKING = Set.of("goes", "habit", "knows", "way", "silent", "of", "sure",
        "fridays", "again", "oddest", "ring", "parted", "watch", "ask", "fills", "filled", "judge", "trace",
        "taken", "count", "read");
    private static final Map<String, Method> METHODS = methods(TuesdayKnew.class);
    private static final Map<String, Method> MODEL_METHODS = methods(PlainModel.class);

    static {
        NAMED.put("NONE", -1L);
        NAMED.put("BAD", -2L);
        NAMED.put("STATE", -3L);
        NAMED.put("FULL", -4L);
        NAMED.put("NEVER", -5L);
        NAMED.put("NOTHING", -11L);
        NAMED.put("CAST", -12L);
        NAMED.put("PLACE", -13L);
        NAMED.put("SIZE", -14L);
        NAMED.put("MIN", (long) Integer.MIN_VALUE);
        NAMED.put("MAX", (long) Integer.MAX_VALUE);
        NAMED.put("NO", Long.MIN_VALUE);
        NAMED.put("LONG_MIN", Long.MIN_VALUE);
        NAMED.put("LONG_MAX", Long.MAX_VALUE);
    }

    private record Step(String name, long[] values, Long want) {
        public String toString() {
            return name + Arrays.toString(values).replace('[', '(').replace(']', ')');
        }
    }

    private final Due due;
    private final String sentence;
    private final List<Step> steps = new ArrayList<>();

    private Script(Due due, String sentence, String text) {
        this.due = due;
        this.sentence = sentence;
        for (String line : text.split("\n")) {
            if (!line.isBlank()) {
                read(line.trim());
            }
        }
    }

    /** Runs a text of calls; what goes wrong is told with the sentence. */
    static void run(Due due, String sentence, String text) {
        Script script = new Script(due, sentence, text);
        due.holds(sentence + ": more than 512 calls", script.steps.size() <= MOST_CALLS);
        script.compare();
        script.compareWithModel();
    }

    // ---- reading

    private static Map<String, Method> methods(Class<?> of) {
        Map<String, Method> found = new HashMap<>();
        for (Method m : of.getDeclaredMethods()) {
            if (!m.isSynthetic() && (of != TuesdayKnew.class || java.lang.reflect.Modifier.isPublic(m.getModifiers()))) {
                m.setAccessible(true);
                found.put(m.getName(), m);
            }
        }
        return found;
    }

    private void read(String line) {
        Matcher times = TIMES.matcher(line);
        if (times.matches()) {
            for (int i = Integer.parseInt(times.group(1)); i > 0; i--) {
                read(times.group(2));
            }
            return;
        }
        int is = line.indexOf(" = ", line.lastIndexOf('"') + 1);
        String call = is < 0 ? line : line.substring(0, is);
        String want = is < 0 ? null : line.substring(is + 3);
        Matcher told = TOLD.matcher(call);
        if (told.matches()) {
            readTold(told.group(1), told.group(2), want);
        } else if (WHOLE.matcher(call).matches() && !call.contains(",")) {
            readWhole(call, want);
        } else {
            add(call, want);
        }
    }

    private void readTold(String what, String text, String want) {
        for (int i = 0; i < text.length(); i += 4) {
            String part = text.substring(i, Math.min(text.length(), i + 4));
            int bytes = 0;
            for (char c : part.toCharArray()) {
                bytes = bytes << 8 | c;
            }
            boolean last = i + 4 >= text.length() && what.equals("feed");
            add("feed(" + bytes + ", " + part.length() + ")", last ? want : null);
        }
        if (what.equals("law")) {
            add("law()", want);
        }
    }

    private void readWhole(String call, String want) {
        String[] row = want.equals("none") ? new String[0] : want.trim().split(" ");
        boolean way = call.startsWith("way");
        String head = way ? call.replace(")", ", ") : "trace(";
        add(way ? head + "-1)" : "count(5)", "" + row.length);
        for (int i = 0; i < row.length; i++) {
            add(head + i + ")", row[i]);
        }
        add(head + row.length + ")", "NONE");
        add(head + (way ? "-2)" : "-1)"), "NONE");
    }

    private void add(String call, String want) {
        Matcher m = CALL.matcher(call);
        if (!m.matches() || !METHODS.containsKey(m.group(1))) {
            throw new IllegalArgumentException(sentence + ": no call: " + call);
        }
        String[] told = m.group(2).isBlank() ? new String[0] : m.group(2).split(",");
        long[] values = new long[told.length];
        for (int i = 0; i < told.length; i++) {
            values[i] = number(told[i].trim());
        }
        steps.add(new Step(m.group(1), values, want == null ? null : number(want.trim())));
    }

    private static long number(String told) {
        if (told.startsWith("{")) {
            long bits = 0;
            for (String bit : told.substring(1, told.length() - 1).trim().split(" +")) {
                bits |= bit.isEmpty() ? 0 : 1L << Integer.parseInt(bit);
            }
            return bits;
        }
        Long named = NAMED.get(told);
        return named != null ? named : Long.decode(told);
    }

    // ---- running

    private static long call(Object x, Step step) {
        Method m = (x instanceof TuesdayKnew ? METHODS : MODEL_METHODS).get(step.name);
        Object[] values = new Object[step.values.length];
        for (int i = 0; i < values.length; i++) {
            boolean isLong = m.getParameterTypes()[i] == long.class;
            values[i] = isLong ? (Object) step.values[i] : (Object) Math.toIntExact(step.values[i]);
        }
        try {
            return ((Number) m.invoke(x, values)).longValue();
        } catch (InvocationTargetException e) {
            throw new IllegalStateException(step + " threw", e.getCause());
        } catch (IllegalAccessException e) {
            throw new IllegalStateException(e);
        }
    }

    private void compare() {
        TuesdayKnew x = new TuesdayKnew();
        for (int i = 0; i < steps.size(); i++) {
            Step step = steps.get(i);
            long got = call(x, step);
            if (step.want != null) {
                due.is(sentence + ": call " + i + ", " + step, got, step.want);
            }
            if (leavesAll(step, got)) {
                compareWholes(i);
            }
        }
    }

    /** Whether the answer is one by which nothing may have changed. */
    private static boolean leavesAll(Step step, long got) {
        if (step.name.equals("law")) {
            return got == TuesdayKnew.FULL;
        }
        boolean refused = got < 0 && got != -5 && !step.name.equals("act") && !step.name.equals("law");
        return ASKING.contains(step.name) || refused;
    }

    /** Two new objects, one with the call and one without it, must answer alike whatever is asked. */
    private void compareWholes(int last) {
        if (last + 1 + Whole.MOST_CALLS > MOST_CALLS) {
            due.holds(sentence + ": too many calls to look at the whole behind them", false);
            return;
        }
        long[] without = Whole.of(replay(last));
        long[] with = Whole.of(replay(last + 1));
        due.holds(sentence + ": call " + last + ", " + steps.get(last) + " changed what is answered then",
            Arrays.equals(without, with));
    }

    private TuesdayKnew replay(int n) {
        TuesdayKnew x = new TuesdayKnew();
        for (Step step : steps.subList(0, n)) {
            call(x, step);
        }
        return x;
    }

    /** The answers told here are those of the plain model, too: a wrong one is found in one of the two. */
    private void compareWithModel() {
        PlainModel y = new PlainModel();
        for (int i = 0; i < steps.size(); i++) {
            Step step = steps.get(i);
            long got = call(y, step);
            if (step.want != null) {
                due.is(sentence + ": the plain model: call " + i + ", " + step, got, step.want);
            }
        }
    }
}
