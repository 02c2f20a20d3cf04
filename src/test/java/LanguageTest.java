import java.io.IOException;
import java.lang.reflect.Constructor;
import java.lang.reflect.Field;
import java.lang.reflect.Method;
import java.lang.reflect.Modifier;
import java.nio.file.Files;
import java.nio.file.Path;
import java.util.List;
import java.util.Set;
import java.util.TreeSet;
import java.util.regex.Matcher;
import java.util.regex.Pattern;

/** Rules of LANGUAGE.md that can be seen in the compiled class and in the source; run in the project's folder. */
public final class LanguageTest {
    private static final Due due = new Due("LanguageTest");
    private static final String FACE =
        "name(i) join(iii) news(ii) feed(ii) law() goes(ii) habit(ii) knows(i) way(ii) silent(ii) "
        + "trade(iiiii) of(ii) sure(i) fridays(i) again(iiii)l oddest(i) ring(i) parted(ii) watch(iii) ask(i) "
        + "blank(i) fills(i) filled(i) judge(iii) image() undo() act(iii) trace(i) taken(ii) count(i) "
        + "tape(iii) item(iil) read(ii)l shift(iiiii) ";
    private static final String[] WORDS = {
        "throw", "throws", "try", "catch", "finally", "synchronized", "assert", "volatile", "native",
        "import static", "package", "System.out", "Object", "hashCode", "String toString", "boolean equals",
    };
    /** What rule 4 lets be imported, and what of those classes may be called beside Integer, Long and Math. */
    private static final Set<String> IMPORTED = Set.of(
        "java.util.Arrays", "java.util.ArrayList", "java.util.List", "java.util.Iterator");
    private static final Set<String> CALLED = Set.of(
        "Arrays.fill", "Arrays.copyOf", "Arrays.copyOfRange", "System.arraycopy");
    private static final Pattern NUMBERS = Pattern.compile("(Integer|Long|Math)\\.\\w+");
    /** Functions of Math over doubles, and those that throw or are by chance. */
    private static final Pattern NOT_OF_NUMBERS = Pattern.compile(
        "\\w+Exact|random|sqrt|cbrt|pow|exp|expm1|log|log10|log1p|sin|cos|tan|asin|acos|atan|atan2|sinh|cosh|tanh"
            + "|ceil|floor|rint|round|hypot|fma|toRadians|toDegrees|parse\\w+|valueOf|decode|getInteger|getLong");

    public static void main(String[] args) throws IOException {
        face();
        Class<?>[] inside = TuesdayKnew.class.getDeclaredClasses();
        due.holds("some twelve classes at most", inside.length <= 14);
        members(TuesdayKnew.class);
        for (Class<?> c : inside) {
            int kind = c.getModifiers();
            due.holds(c + " is static, private or package-visible", Modifier.isStatic(kind)
                && !Modifier.isPublic(kind) && !Modifier.isProtected(kind));
            members(c);
        }
        source(Files.readString(Path.of("src/main/java/TuesdayKnew.java")));
        due.end();
    }

    private static String letter(Class<?> type) {
        return type == int.class ? "i" : type == long.class ? "l" : "?";
    }

    private static void face() {
        due.holds("the class is public and final", TuesdayKnew.class.getModifiers() == (Modifier.PUBLIC | Modifier.FINAL));
        Set<String> want = new TreeSet<>(List.of(FACE.trim().split(" ")));
        Set<String> got = new TreeSet<>();
        for (Method m : TuesdayKnew.class.getDeclaredMethods()) {
            if (Modifier.isPrivate(m.getModifiers())) {
                due.holds(m + " bears a public method's name", !(" " + FACE).contains(" " + m.getName() + "("));
                continue;
            }
            StringBuilder s = new StringBuilder(m.getName()).append('(');
            for (Class<?> type : m.getParameterTypes()) {
                s.append(letter(type));
            }
            got.add(s.append(')').append(m.getReturnType() == int.class ? "" : letter(m.getReturnType())).toString());
            due.holds(m + " is public, no more", m.getModifiers() == Modifier.PUBLIC);
        }
        due.holds("the methods are those of the face: " + got, got.equals(want));
        Constructor<?>[] made = TuesdayKnew.class.getDeclaredConstructors();
        due.holds("one public constructor", made.length == 1 && made[0].getModifiers() == Modifier.PUBLIC
            && made[0].getParameterCount() == 0);
        Set<String> constants = new TreeSet<>();
        for (Field f : TuesdayKnew.class.getDeclaredFields()) {
            if (!Modifier.isPrivate(f.getModifiers())) {
                constants.add(f.getName());
                due.holds(f + " is a public constant",
                    f.getModifiers() == (Modifier.PUBLIC | Modifier.STATIC | Modifier.FINAL));
            }
        }
        due.holds("the constants are those of the face", constants.equals(Set.of("NONE", "BAD", "STATE", "FULL", "NO")));
    }

    private static void members(Class<?> c) {
        int fields = 0;
        for (Field f : c.getDeclaredFields()) {
            boolean isStatic = Modifier.isStatic(f.getModifiers());
            fields += isStatic ? 0 : 1;
            due.holds(f + " is static, but not final", !isStatic || Modifier.isFinal(f.getModifiers()));
        }
        due.holds(c + " has some twenty fields at most", fields <= 22);
        for (Method m : c.getDeclaredMethods()) {
            due.holds(m + " takes more than seven", m.getParameterCount() <= 7);
            due.holds(m + " is a lambda", !m.getName().contains("lambda$"));
        }
    }

    private static void source(String text) {
        String code = text.replaceAll("(?s)/\\*.*?\\*/", "").replaceAll("//[^\n]*", "");
        String bare = code.replaceAll("\"[^\"]*\"", "\"\"").replaceAll("'[^']*'", "' '");
        for (String word : WORDS) {
            due.holds("the source has " + word, !Pattern.compile("\\b" + Pattern.quote(word) + "\\b").matcher(bare).find());
        }
        for (char c : code.toCharArray()) {
            due.holds("a sign beyond 127 in the source: " + (int) c, c <= 127);
        }
        due.holds("the source has ::", !bare.contains("::"));
        due.holds("the source joins texts by +", !bare.contains("\"\" +") && !bare.contains("+ \"\""));
        due.holds("the source has a static block", !Pattern.compile("static\\s*\\{").matcher(bare).find());
        Matcher imports = Pattern.compile("import ([\\w.]+);").matcher(bare);
        while (imports.find()) {
            due.holds("it imports " + imports.group(1), IMPORTED.contains(imports.group(1)));
        }
        Matcher calls = Pattern.compile("\\b(Arrays|System|Math|Integer|Long|Character|Byte|Boolean)\\.\\w+").matcher(bare);
        while (calls.find()) {
            String called = calls.group().substring(calls.group().indexOf('.') + 1);
            boolean ofNumbers = NUMBERS.matcher(calls.group()).matches() && !NOT_OF_NUMBERS.matcher(called).matches();
            due.holds("it calls " + calls.group(), ofNumbers || CALLED.contains(calls.group()));
        }
        methodLengths(code);
    }

    private static void methodLengths(String code) {
        int length = -1;
        String head = "";
        for (String line : code.split("\n")) {
            boolean begins = line.matches(" {4}( {4})?[\\w\\[\\]<>, ]+\\([^)]*\\) \\{");
            if (begins && !line.matches(".*\\b(if|for|while|switch)\\b.*")) {
                head = line.trim();
                length = 0;
            }
            length += length < 0 ? 0 : 1;
            if (length > 66) {
                due.holds("more than some sixty lines: " + head, false);
                length = -1;
            }
            if (line.matches(" {4}( {4})?\\}")) {
                length = -1;
            }
        }
    }
}
