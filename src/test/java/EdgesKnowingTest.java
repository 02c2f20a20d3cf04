/** The document's edges, sentence by sentence: promises 9 to 11, knows, way, silent. */
public final class EdgesKnowingTest {
    private static final Due due = new Due("EdgesKnowingTest");
    /** Eight names in a row, each joined to the next; the first had the news. */
    private static final String ROW = """
        8 times name(1)
        join(0, 1, 1) = 0
        join(1, 2, 1) = 0
        join(2, 3, 1) = 0
        join(3, 4, 1) = 0
        join(4, 5, 1) = 0
        join(5, 6, 1) = 0
        join(6, 7, 1) = 0
        news(0, 0) = NEVER
        """;

    public static void main(String[] args) {
        knowsNames();
        knowsHours();
        knowsSteps();
        wayPlaces();
        wayOfLast();
        wayChoice();
        silentRefusals();
        silentHours();
        silentSets();
        due.end();
    }

    private static void edge(String sentence, String calls) {
        Script.run(due, sentence, calls);
    }

    private static void knowsNames() {
        edge("9 knows: NONE", """
            knows(0) = NONE
            3 times name(1)
            knows(-1) = NONE
            knows(3) = NONE
            knows(MIN) = NONE
            knows(MAX) = NONE
            knows(2) = NEVER
            5 times name(1)
            knows(7) = NEVER
            knows(8) = NONE
            """);
        edge("1 KNOWS: .. from one that HAD it (-5: never)", """
            3 times name(1)
            law "way 0 a<9" = 0
            join(0, 1, 1) = 0
            knows(0) = NEVER
            knows(1) = NEVER
            news(1, 0) = NEVER
            knows(0) = 0
            knows(1) = 0
            knows(2) = NEVER
            """);
    }

    private static void knowsHours() {
        edge("1 KNOWS: the least HOUR: had, or told", """
            2 times name(1)
            law "way 10 a<9" = 0
            join(0, 1, 1) = 0
            news(0, 5) = NEVER
            news(1, 16) = NEVER
            knows(1) = 15
            news(1, 15) = 16
            knows(1) = 15
            news(1, 14) = 15
            knows(1) = 14
            knows(0) = 5
            """);
        edge("1 KNOWS: the least of two ways, longer in steps", """
            4 times name(1)
            law "way 10 s=1;way 31 s=2;way 30 s=3" = 0
            join(0, 1, 1) = 0
            join(1, 2, 1) = 0
            join(2, 3, 1) = 0
            join(0, 3, 2) = 0
            news(0, 0) = NEVER
            knows(3) = 30
            join(2, 3, 2) = 1
            knows(3) = 31
            join(0, 3, 3) = 2
            knows(3) = 30
            """);
        edge("1 KNOWS: by one way, not back by it", """
            2 times name(1)
            law "way 1 a=0" = 0
            join(0, 1, 1) = 0
            news(1, 0) = NEVER
            knows(0) = NEVER
            news(1, -1) = 0
            news(0, 0) = NEVER
            knows(1) = 1
            """);
        edge("1 KNOWS: the latest HOUR that there is", ROW + """
            law "way 999 a<9" = 0
            news(0, 99) = 0
            knows(7) = 7092
            knows(6) = 6093
            """);
        edge("1 KNOWS: in no time at all", ROW + """
            law "way 0 a<9" = 0
            knows(7) = 0
            """);
    }

    private static void knowsSteps() {
        edge("1 in steps at most as many as steps tells: as many, one more", ROW + """
            law "way 1 a<9;steps 7" = 0
            knows(7) = 7
            law "way 1 a<9;steps 6" = 1
            knows(6) = 6
            knows(7) = NEVER
            law "way 1 a<9;steps 1" = 2
            knows(1) = 1
            knows(2) = NEVER
            law "way 1 a<9;steps 0" = 3
            knows(0) = 0
            knows(1) = NEVER
            """);
        edge("1 steps likewise (9 without; more counts as 9)", ROW + """
            law "way 1 a<9" = 0
            knows(7) = 7
            law "way 1 a<9;steps 9" = 1
            knows(7) = 7
            law "way 1 a<9;steps 10" = 2
            knows(7) = 7
            law "way 1 a<9;steps 999" = 3
            knows(7) = 7
            """);
        edge("1 steps: the last one's n", ROW + """
            law "steps 1;way 1 a<9;steps 3;steps 2" = 0
            knows(2) = 2
            knows(3) = NEVER
            """);
        edge("1 steps: of the whole way, not of its end", """
            4 times name(1)
            law "way 1 s=1;way 10 s=2;steps 2" = 0
            join(0, 1, 1) = 0
            join(1, 2, 1) = 0
            join(0, 2, 2) = 0
            join(2, 3, 1) = 0
            news(0, 0) = NEVER
            knows(2) = 2
            knows(3) = 11
            way(2) = 0 1 2
            way(3) = 0 2 3
            """);
    }

    private static void wayPlaces() {
        edge("10 way: NONE: name", """
            way(0, -1) = NONE
            3 times name(1)
            way(-1, -1) = NONE
            way(3, -1) = NONE
            way(MIN, 0) = NONE
            way(MAX, 0) = NONE
            way(2, -1) = 0
            5 times name(1)
            way(8, -1) = NONE
            way(7, -1) = 0
            """);
        edge("10 way: (0: it never KNOWS); NONE: no such i", """
            2 times name(1)
            way(0, -1) = 0
            way(0, 0) = NONE
            way(0, 1) = NONE
            way(0, -2) = NONE
            news(0, 99) = NEVER
            way(0, -1) = 1
            way(0, 0) = 0
            way(0, 1) = NONE
            way(0, -2) = NONE
            way(0, MIN) = NONE
            way(0, MAX) = NONE
            way(1, -1) = 0
            way(1, 0) = NONE
            """);
        edge("10 way: its i-th NAME, of as many as can be", ROW + """
            law "way 1 a<9" = 0
            way(7) = 0 1 2 3 4 5 6 7
            way(7, 9) = NONE
            way(7, 10) = NONE
            way(0) = 0
            law "way 1 a<9;steps 7" = 1
            way(7, -1) = 8
            law "way 1 a<9;steps 6" = 2
            way(7, -1) = 0
            way(7, 0) = NONE
            law "way 1 a<9;steps 0" = 3
            way(0) = 0
            way(1, -1) = 0
            """);
    }

    private static void wayOfLast() {
        edge("10 way: from the last of eight to the first", ROW + """
            law "way 1 a<9" = 0
            news(0, -1) = 0
            news(7, 0) = NEVER
            way(0) = 7 6 5 4 3 2 1 0
            join(7, 0, 1) = 0
            way(0) = 7 0
            way(1) = 7 0 1
            way(7) = 7
            """);
    }

    private static void wayChoice() {
        edge("1 A WAY: .. the one that HAD it first", """
            3 times name(1)
            law "way 5 a<9" = 0
            join(0, 1, 1) = 0
            join(1, 2, 1) = 0
            news(2, 3) = NEVER
            way(0) = 2 1 0
            way(2) = 2
            """);
        edge("1 .. by which it comes at that HOUR", """
            4 times name(1)
            law "way 5 s=1;way 9 s=2;way 11 s=3" = 0
            join(0, 3, 2) = 0
            join(1, 3, 1) = 0
            join(2, 3, 3) = 0
            news(0, 1) = NEVER
            news(1, 4) = NEVER
            news(2, 0) = NEVER
            way(3) = 1 3
            news(1, 6) = 4
            way(3) = 0 3
            """);
        edge("1 .. in steps as few as can be: told as soon as it had it", """
            2 times name(1)
            law "way 5 a<9" = 0
            join(0, 1, 1) = 0
            news(0, 1) = NEVER
            news(1, 6) = NEVER
            way(1) = 1
            news(1, 7) = 6
            way(1) = 0 1
            """);
        edge("1 .. in steps as few as can be: one step, two", """
            4 times name(1)
            law "way 5 s=1;way 10 s=2;way 11 s=3" = 0
            join(0, 1, 1) = 0
            join(1, 3, 1) = 0
            join(0, 3, 2) = 0
            news(0, 1) = NEVER
            way(3) = 0 3
            join(0, 3, 3) = 2
            way(3) = 0 1 3
            join(2, 3, 2) = 0
            news(2, 1) = NEVER
            way(3) = 2 3
            """);
        edge("1 of several the first as a row: its first NAME", """
            4 times name(1)
            law "way 5 a<9" = 0
            join(0, 3, 1) = 0
            join(1, 3, 1) = 0
            join(2, 3, 1) = 0
            news(2, 1) = NEVER
            way(3) = 2 3
            news(1, 1) = NEVER
            way(3) = 1 3
            news(0, 1) = NEVER
            way(3) = 0 3
            """);
        edge("1 of several the first as a row: a NAME within", """
            6 times name(1)
            law "way 5 a<9" = 0
            news(5, 0) = NEVER
            join(5, 3, 1) = 0
            join(3, 2, 1) = 0
            join(2, 0, 1) = 0
            way(0) = 5 3 2 0
            join(5, 4, 1) = 0
            join(4, 1, 1) = 0
            join(1, 0, 1) = 0
            way(0) = 5 3 2 0
            join(3, 1, 1) = 0
            way(0) = 5 3 1 0
            """);
        edge("1 of several the first as a row: its NAMES, not its end", """
            6 times name(1)
            law "way 5 a<9" = 0
            news(0, 0) = NEVER
            join(0, 1, 1) = 0
            join(1, 4, 1) = 0
            join(4, 5, 1) = 0
            join(0, 2, 1) = 0
            join(2, 3, 1) = 0
            join(3, 5, 1) = 0
            way(5) = 0 1 4 5
            """);
    }

    private static void silentRefusals() {
        edge("11 silent: NONE: name", """
            silent(0, 0) = NONE
            3 times name(1)
            silent(-1, 0) = NONE
            silent(3, 0) = NONE
            silent(MIN, 0) = NONE
            silent(MAX, 0) = NONE
            silent(2, 0) = 0
            5 times name(1)
            silent(7, 0) = 0
            silent(8, 0) = NONE
            """);
        edge("11 silent: BAD: hour", """
            2 times name(1)
            silent(0, -1) = BAD
            silent(0, 0) = 0
            silent(0, 99) = 0
            silent(0, 100) = BAD
            silent(0, MIN) = BAD
            silent(0, MAX) = BAD
            """);
        edge("11 silent: NONE ahead of BAD; BAD though it HAD it", """
            2 times name(1)
            silent(2, 100) = NONE
            silent(-1, -1) = NONE
            news(0, 0) = NEVER
            silent(0, 100) = BAD
            silent(0, -1) = BAD
            """);
    }

    private static void silentHours() {
        edge("1 SILENT: -5: none (it HAD it by then)", """
            2 times name(1)
            news(0, 5) = NEVER
            silent(0, 4) = 0
            silent(0, 5) = NEVER
            silent(0, 6) = NEVER
            silent(0, 99) = NEVER
            news(0, 0) = 5
            silent(0, 0) = NEVER
            news(0, 99) = 0
            silent(0, 98) = 0
            silent(0, 99) = NEVER
            """);
        edge("1 SILENT: .. so that a NAME knows not by an HOUR", """
            2 times name(1)
            law "way 10 a<9" = 0
            join(0, 1, 1) = 0
            news(0, 5) = NEVER
            silent(1, 14) = {}
            silent(1, 15) = {0}
            silent(1, 99) = {0}
            news(1, 20) = NEVER
            silent(1, 19) = {0}
            silent(1, 20) = NEVER
            """);
        edge("1 SILENT: it need not keep what comes behind that HOUR, or beyond steps", """
            4 times name(1)
            law "way 10 s=1;way 99 s=2;steps 2" = 0
            news(0, 0) = NEVER
            join(0, 1, 1) = 0
            join(1, 3, 1) = 0
            join(2, 3, 2) = 0
            news(2, 1) = NEVER
            silent(3, 99) = {0}
            news(2, 0) = 1
            silent(3, 99) = {0 2}
            silent(3, 98) = {0}
            silent(3, 19) = {}
            news(2, -1) = 0
            join(1, 3, 0) = 1
            join(1, 2, 1) = 0
            join(2, 3, 1) = 2
            silent(3, 99) = {}
            law "way 10 s=1;steps 3" = 1
            silent(3, 99) = {0}
            """);
    }

    private static void silentSets() {
        edge("1 SILENT: the fewest NAMES", """
            6 times name(1)
            law "way 1 a<9" = 0
            news(0, 0) = NEVER
            news(1, 0) = NEVER
            news(2, 0) = NEVER
            join(0, 3, 1) = 0
            join(1, 3, 1) = 0
            join(2, 3, 1) = 0
            join(3, 4, 1) = 0
            silent(4, 9) = {3}
            silent(4, 1) = {}
            silent(3, 9) = {0 1 2}
            join(0, 4, 1) = 0
            silent(4, 9) = {0 3}
            """);
        edge("1 SILENT: of several sets the least as bits", """
            5 times name(1)
            law "way 1 a<9" = 0
            news(0, 0) = NEVER
            news(3, 0) = NEVER
            join(0, 1, 1) = 0
            join(0, 2, 1) = 0
            join(3, 1, 1) = 0
            join(3, 2, 1) = 0
            join(1, 4, 1) = 0
            join(2, 4, 1) = 0
            silent(4, 99) = {1 2}
            """);
        edge("1 SILENT: (they may know)", """
            3 times name(1)
            law "way 1 a<9" = 0
            news(0, 0) = NEVER
            news(1, 7) = NEVER
            join(0, 1, 1) = 0
            join(1, 2, 1) = 0
            join(0, 2, 1) = 0
            silent(2, 50) = {0 1}
            silent(2, 7) = {0}
            silent(2, 8) = {0 1}
            """);
        edge("1 SILENT: NAMES, other than that one: all of them", """
            8 times name(1)
            law "way 1 a<9" = 0
            join(7, 0, 1)
            join(7, 1, 1)
            join(7, 2, 1)
            join(7, 3, 1)
            join(7, 4, 1)
            join(7, 5, 1)
            join(7, 6, 1)
            news(0, 98)
            news(1, 98)
            news(2, 98)
            news(3, 98)
            news(4, 98)
            news(5, 98)
            news(6, 98)
            silent(7, 99) = 127
            silent(7, 98) = 0
            silent(0, 97) = 0
            """);
        edge("1 SILENT: other than that one, though it is the first", """
            8 times name(1)
            law "way 1 a<9" = 0
            join(0, 7, 1)
            join(0, 6, 1)
            news(7, 0)
            news(6, 0)
            silent(0, 99) = {6 7}
            news(0, 50)
            silent(0, 49) = {6 7}
            silent(0, 50) = NEVER
            """);
    }
}
