/** The document's edges, sentence by sentence: promises 25 and 32 to 35, judging and tapes. */
public final class EdgesTapesTest {
    private static final Due due = new Due("EdgesTapesTest");

    public static void main(String[] args) {
        tapeRefusals();
        tapeBecomes();
        tapeOrder();
        itemRefusals();
        itemBits();
        read();
        shiftRefusals();
        shiftPlaces();
        shiftOrder();
        shiftMoves();
        judgeRefusals();
        judgeEnds();
        judgeFirst();
        judgeSteps();
        judgeMostSteps();
        judgeHours();
        due.end();
    }

    private static void edge(String sentence, String calls) {
        Script.run(due, sentence, calls);
    }

    private static void tapeRefusals() {
        edge("32 tape: NONE: tape; 4 TAPES 0 .. 5", """
            tape(-1, 0, 1) = NONE
            tape(6, 0, 1) = NONE
            tape(MIN, 0, 1) = NONE
            tape(MAX, 0, 1) = NONE
            tape(6, -1, 0) = NONE
            tape(0, 0, 1) = 1
            tape(5, 0, 1) = 1
            """);
        edge("32 tape: BAD: sort; 4 a row of 0 bytes .. 4 booleans", """
            tape(0, -2, 1) = BAD
            tape(0, 5, 1) = BAD
            tape(0, MIN, 1) = BAD
            tape(0, MAX, 1) = BAD
            item(0, 0, 1) = NOTHING
            tape(0, 0, 1) = 1
            tape(0, 1, 1) = 1
            tape(0, 2, 1) = 1
            tape(0, 3, 1) = 1
            tape(0, 4, 1) = 1
            item(0, 0, 1) = 1
            tape(0, 5, 1) = BAD
            tape(0, -2, 1) = BAD
            read(0, 0) = 1
            tape(0, -1, 1) = 1
            item(0, 0, 1) = NOTHING
            """);
        edge("32 tape: BAD: .. n above 60", """
            tape(0, 0, 61) = BAD
            tape(0, 4, 61) = BAD
            tape(0, 3, MAX) = BAD
            item(0, 0, 1) = NOTHING
            tape(0, 0, 60) = 1
            item(0, 59, 1) = 1
            item(0, 60, 1) = PLACE
            tape(0, 0, 61) = BAD
            read(0, 59) = 1
            """);
        edge("32 tape: SIZE: a size below 0", """
            tape(0, 0, -1) = SIZE
            tape(0, 4, MIN) = SIZE
            item(0, 0, 1) = NOTHING
            tape(0, 0, 0) = 1
            item(0, 0, 1) = PLACE
            tape(0, 2, 3) = 1
            item(0, 2, 7) = 1
            tape(0, 2, -1) = SIZE
            read(0, 2) = 7
            """);
        edge("32 tape: (sort -1: n does not matter)", """
            tape(0, -1, 61) = 1
            tape(0, -1, MAX) = 1
            tape(0, -1, -1) = 1
            tape(0, -1, MIN) = 1
            tape(0, 0, 1) = 1
            tape(0, -1, -1) = 1
            item(0, 0, 1) = NOTHING
            read(0, 0) = NO
            tape(0, 0, 1) = 1
            tape(0, -1, 61) = 1
            item(0, 0, 1) = NOTHING
            """);
    }

    private static void tapeBecomes() {
        edge("32 tape: A TAPE becomes a row of n .., all 0", """
            tape(0, 2, 4) = 1
            item(0, 0, 1) = 1
            item(0, 3, 4) = 1
            tape(0, 2, 4) = 1
            read(0, 0) = 0
            read(0, 3) = 0
            item(0, 3, 4) = 1
            tape(0, 2, 3) = 1
            read(0, 3) = NO
            tape(0, 2, 5) = 1
            read(0, 3) = 0
            read(0, 4) = 0
            item(0, 4, 9) = 1
            tape(0, -1, 0) = 1
            tape(0, 3, 5) = 1
            read(0, 4) = 0
            """);
        edge("32 tape: n (0 .. 60): none, all", """
            tape(0, 3, 0) = 1
            read(0, 0) = NO
            item(0, 0, 1) = PLACE
            tape(0, 3, 60) = 1
            read(0, 0) = 0
            read(0, 59) = 0
            read(0, 60) = NO
            item(0, 59, LONG_MAX) = 1
            read(0, 59) = LONG_MAX
            """);
        edge("32 tape: no other TAPE", """
            tape(0, 0, 2) = 1
            tape(1, 0, 2) = 1
            tape(5, 0, 2) = 1
            item(0, 0, 1) = 1
            item(1, 0, 2) = 1
            item(5, 0, 3) = 1
            read(0, 0) = 1
            read(1, 0) = 2
            read(5, 0) = 3
            tape(1, -1, 0) = 1
            read(0, 0) = 1
            read(5, 0) = 3
            """);
    }

    private static void tapeOrder() {
        edge("32 tape: NONE ahead of BAD and SIZE", """
            tape(6, 5, 1) = NONE
            tape(-1, 0, 61) = NONE
            tape(6, 0, -1) = NONE
            """);
        edge("32 tape: BAD ahead of SIZE", """
            tape(0, 5, -1) = BAD
            tape(0, -2, -1) = BAD
            """);
    }

    private static void itemRefusals() {
        edge("33 item: NONE", """
            item(-1, 0, 1) = NONE
            item(6, 0, 1) = NONE
            item(MIN, 0, 1) = NONE
            item(MAX, 0, 1) = NONE
            tape(0, 0, 1) = 1
            tape(5, 0, 1) = 1
            item(0, 0, 1) = 1
            item(5, 0, 1) = 1
            """);
        edge("33 item: NOTHING", """
            item(0, 0, 1) = NOTHING
            tape(0, 0, 1) = 1
            item(0, 0, 1) = 1
            tape(0, -1, 0) = 1
            item(0, 0, 1) = NOTHING
            """);
        edge("33 item: PLACE", """
            tape(0, 2, 3) = 1
            item(0, -1, 1) = PLACE
            item(0, 3, 1) = PLACE
            item(0, MIN, 1) = PLACE
            item(0, MAX, 1) = PLACE
            item(0, 0, 1) = 1
            item(0, 2, 3) = 1
            read(0, 0) = 1
            read(0, 1) = 0
            read(0, 2) = 3
            tape(0, 2, 0) = 1
            item(0, 0, 1) = PLACE
            """);
        edge("33 item: NONE, NOTHING, PLACE: in this order", """
            item(6, -1, 1) = NONE
            item(0, -1, 1) = NOTHING
            item(0, 60, 1) = NOTHING
            """);
    }

    private static void bits(String sort, int number, long... pairs) {
        StringBuilder calls = new StringBuilder("tape(3, " + number + ", 2) = 1\n");
        for (int i = 0; i < pairs.length; i += 2) {
            calls.append("item(3, 1, ").append(pairs[i]).append(") = 1\n");
            calls.append("read(3, 1) = ").append(pairs[i + 1]).append('\n');
            calls.append("read(3, 0) = 0\n");
        }
        edge("33 item: v (its lowest bits, as many as an item has): " + sort, calls.toString());
    }

    private static void itemBits() {
        bits("bytes", 0, 127, 127, 128, -128, -128, -128, -129, 127, 255, -1, 256, 0, 257, 1, -1, -1, 1L << 32, 0,
            Long.MIN_VALUE, 0, Long.MAX_VALUE, -1);
        bits("shorts", 1, 32767, 32767, 32768, -32768, -32768, -32768, -32769, 32767, 65535, -1, 65536, 0, 65537, 1,
            1L << 40, 0, Long.MIN_VALUE, 0, Long.MAX_VALUE, -1, 128, 128);
        bits("ints", 2, 2147483647L, 2147483647L, 2147483648L, -2147483648L, -2147483648L, -2147483648L,
            -2147483649L, 2147483647L, 4294967295L, -1, 4294967296L, 0, 4294967297L, 1, Long.MIN_VALUE, 0,
            Long.MAX_VALUE, -1, 32768, 32768);
        bits("longs", 3, Long.MAX_VALUE, Long.MAX_VALUE, Long.MIN_VALUE + 1, Long.MIN_VALUE + 1, 2147483648L,
            2147483648L, -1, -1, 0, 0, Long.MIN_VALUE, Long.MIN_VALUE);
        bits("booleans: whether v is not 0", 4, 1, 1, 0, 0, 2, 1, 256, 1, -1, 1, 1L << 32, 1, Long.MIN_VALUE, 1,
            Long.MAX_VALUE, 1, 0, 0);
    }

    private static void read() {
        edge("34 read: NO: no such TAPE", """
            read(-1, 0) = NO
            read(6, 0) = NO
            read(MIN, 0) = NO
            read(MAX, 0) = NO
            tape(0, 0, 1) = 1
            tape(5, 0, 1) = 1
            read(0, 0) = 0
            read(5, 0) = 0
            """);
        edge("34 read: NO: .. nothing there", """
            read(0, 0) = NO
            tape(0, 0, 1) = 1
            read(0, 0) = 0
            tape(0, -1, 0) = 1
            read(0, 0) = NO
            """);
        edge("34 read: NO: .. no such place", """
            tape(0, 0, 2) = 1
            read(0, -1) = NO
            read(0, 0) = 0
            read(0, 1) = 0
            read(0, 2) = NO
            read(0, MIN) = NO
            read(0, MAX) = NO
            tape(0, 0, 0) = 1
            read(0, 0) = NO
            """);
    }

    private static void shiftRefusals() {
        edge("35 shift: NONE: tapes", """
            tape(0, 0, 2) = 1
            tape(5, 0, 2) = 1
            shift(-1, 0, 0, 0, 1) = NONE
            shift(6, 0, 0, 0, 1) = NONE
            shift(0, 0, -1, 0, 1) = NONE
            shift(0, 0, 6, 0, 1) = NONE
            shift(MIN, 0, 0, 0, 1) = NONE
            shift(0, 0, MAX, 0, 1) = NONE
            shift(0, 0, 5, 0, 1) = 1
            shift(5, 0, 0, 0, 1) = 1
            """);
        edge("35 shift: NOTHING", """
            tape(0, 0, 2) = 1
            shift(1, 0, 0, 0, 1) = NOTHING
            shift(0, 0, 1, 0, 1) = NOTHING
            shift(1, 0, 2, 0, 0) = NOTHING
            shift(1, 0, 1, 0, 0) = NOTHING
            tape(1, 0, 2) = 1
            shift(0, 0, 1, 0, 1) = 1
            """);
        edge("35 shift: CAST: of unlike sorts", """
            tape(0, 0, 2) = 1
            tape(1, 1, 2) = 1
            tape(2, 2, 2) = 1
            tape(3, 3, 2) = 1
            tape(4, 4, 2) = 1
            item(0, 0, 1) = 1
            item(1, 0, 2) = 1
            item(2, 0, 3) = 1
            item(3, 0, 4) = 1
            shift(0, 0, 1, 0, 1) = CAST
            shift(1, 0, 0, 0, 1) = CAST
            shift(1, 0, 2, 0, 1) = CAST
            shift(2, 0, 3, 0, 1) = CAST
            shift(3, 0, 2, 0, 1) = CAST
            shift(0, 0, 4, 0, 1) = CAST
            shift(4, 0, 0, 0, 0) = CAST
            read(0, 0) = 1
            read(1, 0) = 2
            read(2, 0) = 3
            read(3, 0) = 4
            read(4, 0) = 0
            """);
    }

    private static void shiftPlaces() {
        edge("35 shift: PLACE: n, i or j is below 0", """
            tape(0, 0, 5) = 1
            tape(1, 0, 4) = 1
            item(0, 0, 9) = 1
            shift(0, 0, 1, 0, -1) = PLACE
            shift(0, 2, 1, 2, -1) = PLACE
            shift(0, -1, 1, 0, 1) = PLACE
            shift(0, 0, 1, -1, 1) = PLACE
            shift(0, -1, 1, 0, 0) = PLACE
            shift(0, 0, 1, -1, 0) = PLACE
            shift(0, 0, 1, 0, MIN) = PLACE
            shift(0, MIN, 1, 0, 1) = PLACE
            shift(0, 0, 1, MIN, 1) = PLACE
            shift(0, MIN, 1, 0, MIN) = PLACE
            read(1, 0) = 0
            """);
        edge("35 shift: PLACE: .. or beyond either's end", """
            tape(0, 0, 5) = 1
            tape(1, 0, 4) = 1
            item(0, 4, 9) = 1
            item(0, 3, 8) = 1
            shift(0, 5, 1, 0, 1) = PLACE
            shift(0, 3, 1, 0, 3) = PLACE
            shift(0, 0, 1, 3, 2) = PLACE
            shift(0, 0, 1, 4, 1) = PLACE
            shift(0, 0, 1, 0, 5) = PLACE
            shift(1, 0, 0, 0, 5) = PLACE
            shift(0, 6, 1, 0, 0) = PLACE
            shift(0, 0, 1, 5, 0) = PLACE
            read(1, 3) = 0
            shift(0, 3, 1, 0, 2) = 2
            read(1, 0) = 8
            read(1, 1) = 9
            shift(0, 3, 1, 2, 2) = 2
            read(1, 3) = 9
            shift(0, 0, 1, 0, 4) = 4
            shift(0, 1, 1, 0, 4) = 4
            read(1, 3) = 9
            """);
        edge("35 shift: PLACE: .. sums that wrap are beyond the end", """
            tape(0, 0, 5) = 1
            tape(1, 0, 4) = 1
            shift(0, MAX, 1, 0, 1) = PLACE
            shift(0, 0, 1, MAX, 1) = PLACE
            shift(0, 1, 1, 0, MAX) = PLACE
            shift(0, 0, 1, 1, MAX) = PLACE
            shift(0, MAX, 1, MAX, MAX) = PLACE
            shift(0, 1, 0, 1, MAX) = PLACE
            """);
        edge("35 shift: 0 items, up to the ends", """
            tape(0, 0, 5) = 1
            tape(1, 0, 4) = 1
            tape(2, 0, 0) = 1
            shift(0, 0, 1, 0, 0) = 0
            shift(0, 5, 1, 4, 0) = 0
            shift(0, 6, 1, 4, 0) = PLACE
            shift(0, 5, 1, 5, 0) = PLACE
            shift(2, 0, 2, 0, 0) = 0
            shift(2, 0, 0, 5, 0) = 0
            shift(2, 1, 0, 5, 0) = PLACE
            shift(2, 0, 0, 0, 1) = PLACE
            shift(0, 0, 2, 0, 1) = PLACE
            """);
    }

    private static void shiftOrder() {
        edge("35 shift: NONE, NOTHING, CAST, PLACE: in this order", """
            tape(0, 0, 2) = 1
            tape(1, 1, 2) = 1
            shift(2, 0, 6, 0, 1) = NONE
            shift(6, 0, 2, 0, -1) = NONE
            shift(0, -1, 6, 0, 1) = NONE
            shift(2, -1, 0, 0, 1) = NOTHING
            shift(1, 0, 2, 0, -1) = NOTHING
            shift(0, -1, 1, 0, 1) = CAST
            shift(0, 0, 1, 9, 1) = CAST
            shift(0, 0, 1, 0, -1) = CAST
            """);
    }

    private static void shiftMoves() {
        String row = """
            tape(0, 2, 5) = 1
            item(0, 0, 1) = 1
            item(0, 1, 2) = 1
            item(0, 2, 3) = 1
            item(0, 3, 4) = 1
            item(0, 4, 5) = 1
            """;
        edge("35 shift: the same, upwards: as they all were before", row + """
            shift(0, 0, 0, 1, 4) = 4
            read(0, 0) = 1
            read(0, 1) = 1
            read(0, 2) = 2
            read(0, 3) = 3
            read(0, 4) = 4
            """);
        edge("35 shift: the same, downwards: as they all were before", row + """
            shift(0, 1, 0, 0, 4) = 4
            read(0, 0) = 2
            read(0, 1) = 3
            read(0, 2) = 4
            read(0, 3) = 5
            read(0, 4) = 5
            """);
        edge("35 shift: the same, to where they are", row + """
            shift(0, 0, 0, 0, 5) = 5
            shift(0, 1, 0, 3, 2) = 2
            read(0, 0) = 1
            read(0, 1) = 2
            read(0, 2) = 3
            read(0, 3) = 2
            read(0, 4) = 3
            """);
        edge("35 shift: to another one; those are left, and so is what is beside them", row + """
            tape(1, 2, 5) = 1
            item(1, 0, 9) = 1
            item(1, 4, 9) = 1
            shift(0, 0, 1, 1, 3) = 3
            read(1, 0) = 9
            read(1, 1) = 1
            read(1, 2) = 2
            read(1, 3) = 3
            read(1, 4) = 9
            read(0, 0) = 1
            read(0, 1) = 2
            read(0, 2) = 3
            item(0, 0, 7) = 1
            read(1, 1) = 1
            """);
        for (int sort = 0; sort < 5; sort++) {
            edge("35 shift: a whole row of sort " + sort, """
                tape(4, %1$d, 60) = 1
                tape(5, %1$d, 60) = 1
                item(4, 0, 1) = 1
                item(4, 59, 1) = 1
                shift(4, 0, 5, 0, 60) = 60
                read(5, 0) = 1
                read(5, 1) = 0
                read(5, 59) = 1
                shift(4, 0, 5, 0, 61) = PLACE
                shift(4, 59, 5, 1, 1) = 1
                read(5, 1) = 1
                """.formatted(sort));
        }
    }

    private static void judgeRefusals() {
        edge("25 judge: NONE: tape", """
            name(1) = 0
            news(0, 4) = NEVER
            tape(0, 0, 1) = 1
            tape(5, 0, 1) = 1
            judge(-1, 0, 0) = NONE
            judge(6, 0, 0) = NONE
            judge(MIN, 0, 0) = NONE
            judge(MAX, 0, 0) = NONE
            judge(0, 0, 0) = 4
            judge(5, 0, 0) = 4
            """);
        edge("25 judge: NONE: .. name", """
            judge(0, 0, 0) = NONE
            3 times name(1)
            judge(0, 0, -1) = NONE
            judge(0, 0, 3) = NONE
            judge(0, 0, MIN) = NONE
            judge(0, 0, MAX) = NONE
            judge(0, 0, 2) = 1000
            5 times name(1)
            judge(0, 0, 8) = NONE
            judge(0, 0, 7) = 1000
            """);
        edge("25 judge: CAST: it is no row of bytes", """
            name(1) = 0
            tape(0, 1, 1) = 1
            judge(0, 0, 0) = CAST
            judge(0, -1, 0) = CAST
            tape(0, 2, 0) = 1
            judge(0, 0, 0) = CAST
            tape(0, 3, 1) = 1
            judge(0, 1, 0) = CAST
            tape(0, 4, 1) = 1
            judge(0, 0, 0) = CAST
            tape(0, -1, 1) = 1
            judge(0, 0, 0) = 1000
            tape(0, 0, 1) = 1
            judge(0, 0, 0) = NEVER
            """);
        edge("25 judge: NONE ahead of CAST", """
            name(1) = 0
            tape(0, 1, 1) = 1
            judge(0, 0, 1) = NONE
            judge(0, 0, -1) = NONE
            """);
    }

    private static void judgeEnds() {
        edge("4 JUDGED: 1000 .. (.. or the TAPE holds nothing)", """
            name(1) = 0
            news(0, 0) = NEVER
            judge(0, 0, 0) = 1000
            judge(0, -1, 0) = 1000
            tape(0, 0, 1) = 1
            judge(0, 0, 0) = 0
            tape(0, -1, 1) = 1
            judge(0, 0, 0) = 1000
            judge(0, 5, 0) = 1000
            """);
        edge("4 JUDGED: 1000 .. (or the place is below 0 ..)", """
            name(1) = 0
            news(0, 0) = NEVER
            tape(0, 0, 2) = 1
            judge(0, -1, 0) = 1000
            judge(0, MIN, 0) = 1000
            judge(0, 0, 0) = 0
            """);
        edge("4 JUDGED: 1000 and how many were looked at: none", """
            name(1) = 0
            news(0, 0) = NEVER
            tape(0, 0, 2) = 1
            judge(0, 1, 0) = 0
            judge(0, 2, 0) = 1000
            judge(0, 3, 0) = 1000
            judge(0, 60, 0) = 1000
            judge(0, MAX, 0) = 1000
            tape(0, 0, 0) = 1
            judge(0, 0, 0) = 1000
            """);
        edge("4 JUDGED: 1000 and how many were looked at, if the row ends ahead of the NAME", """
            4 times name(1)
            law "way 2 a<9" = 0
            join(0, 1, 1) = 0
            join(1, 2, 1) = 0
            news(0, 0) = NEVER
            news(1, 0) = NEVER
            tape(0, 0, 3) = 1
            item(0, 1, 1) = 1
            item(0, 2, 2) = 1
            judge(0, 0, 3) = 1003
            judge(0, 1, 3) = 1002
            judge(0, 2, 3) = NEVER
            judge(0, 3, 3) = 1000
            judge(0, 0, 2) = 4
            """);
    }

    private static void judgeFirst() {
        edge("4 JUDGED: -5: the first never HAD it", """
            3 times name(1)
            law "way 2 a<9" = 0
            join(0, 1, 1) = 0
            news(1, 7) = NEVER
            tape(0, 0, 3) = 1
            item(0, 1, 1) = 1
            judge(0, 0, 1) = NEVER
            judge(0, 0, 0) = NEVER
            judge(0, 0, 2) = NEVER
            judge(0, 1, 1) = 7
            judge(0, 1, 0) = 9
            news(0, 0) = NEVER
            judge(0, 0, 0) = 0
            judge(0, 0, 1) = 2
            """);
        edge("4 JUDGED: -5, though what comes behind can't be", """
            2 times name(1)
            tape(0, 0, 2) = 1
            item(0, 1, 9) = 1
            judge(0, 0, 1) = NEVER
            """);
        edge("4 JUDGED: (.. the first NAME 0): -10: it is not there", """
            2 times name(1)
            news(0, 0) = NEVER
            tape(0, 0, 4) = 1
            item(0, 0, 2) = 1
            item(0, 1, 8) = 1
            item(0, 2, -1) = 1
            item(0, 3, 127) = 1
            judge(0, 0, 0) = -10
            judge(0, 1, 0) = -10
            judge(0, 2, 0) = -10
            judge(0, 3, 0) = -10
            6 times name(1)
            judge(0, 0, 0) = NEVER
            judge(0, 1, 0) = -10
            item(0, 1, 7) = 1
            judge(0, 1, 0) = NEVER
            item(0, 1, 256) = 1
            judge(0, 1, 0) = 0
            """);
    }

    private static void judgeSteps() {
        String three = """
            4 times name(1)
            law "way 2 s=1;way 3 s=3&a=0" = 0
            join(0, 1, 1) = 0
            join(1, 2, 1) = 0
            news(0, 0) = NEVER
            tape(0, 0, 5) = 1
            item(0, 2, 1) = 1
            item(0, 3, 2) = 1
            """;
        edge("4 JUDGED: -10 less the place (of its NAME ..): not there", three + """
            judge(0, 1, 2) = 4
            item(0, 4, 4) = 1
            judge(0, 1, 3) = -13
            judge(0, 1, 2) = 4
            item(0, 3, -1) = 1
            judge(0, 1, 3) = -12
            judge(0, 1, 1) = 2
            item(0, 2, 8) = 1
            judge(0, 1, 3) = -11
            judge(0, 1, 0) = 0
            """);
        edge("4 JUDGED: -10 less the place: JOINED not", three + """
            item(0, 4, 3) = 1
            judge(0, 1, 3) = -13
            item(0, 3, 0) = 1
            item(0, 4, 2) = 1
            judge(0, 1, 2) = -13
            join(0, 2, 1) = 0
            judge(0, 1, 2) = 6
            judge(0, 0, 2) = -11
            """);
        edge("4 JUDGED: -10 less the place: JOINED not with itself", three + """
            judge(0, 0, 0) = 0
            judge(0, 0, 1) = -11
            item(0, 3, 1) = 1
            judge(0, 1, 2) = -12
            """);
        edge("4 JUDGED: -10 less the place: it GOES not", three + """
            join(0, 1, 2) = 1
            judge(0, 1, 1) = -11
            join(0, 1, 3) = 2
            judge(0, 1, 1) = 3
            news(1, 0) = NEVER
            item(0, 3, 0) = 1
            judge(0, 2, 0) = -11
            """);
        edge("4 JUDGED: .. of the first step that can't be", three + """
            item(0, 2, 3) = 1
            item(0, 3, 9) = 1
            item(0, 4, 2) = 1
            judge(0, 1, 2) = -11
            """);
        edge("4 JUDGED: from a place on: what stands ahead of it does not matter", three + """
            item(0, 0, 99) = 1
            judge(0, 0, 2) = -10
            judge(0, 1, 2) = 4
            """);
    }

    private static void judgeMostSteps() {
        String toAndFro = """
            4 times name(1)
            join(0, 1, 1) = 0
            news(0, 0) = NEVER
            news(1, 0) = NEVER
            tape(0, 0, 12) = 1
            item(0, 1, 1) = 1
            item(0, 3, 1) = 1
            item(0, 5, 1) = 1
            item(0, 7, 1) = 1
            item(0, 9, 1) = 1
            item(0, 11, 1) = 1
            """;
        edge("4 JUDGED: .. beyond steps; 1 (9 without; more counts as 9)", toAndFro + """
            law "way 1 a<9" = 0
            judge(0, 0, 2) = -20
            judge(0, 1, 2) = -20
            judge(0, 2, 2) = 1010
            law "way 1 a<9;steps 9" = 1
            judge(0, 1, 2) = -20
            judge(0, 2, 2) = 1010
            law "way 1 a<9;steps 10" = 2
            judge(0, 1, 2) = -20
            judge(0, 2, 2) = 1010
            law "way 1 a<9;steps 999" = 3
            judge(0, 1, 2) = -20
            judge(0, 2, 2) = 1010
            law "way 1 a<9;steps 8" = 4
            judge(0, 2, 2) = -19
            judge(0, 3, 2) = 1009
            law "way 1 a<9;steps 9;steps 0" = 5
            judge(0, 0, 2) = -11
            judge(0, 11, 2) = 1001
            judge(0, 0, 0) = 0
            """);
        edge("4 JUDGED: the NAME at the last step, and one beyond", """
            8 times name(1)
            join(0, 1, 1) = 0
            join(1, 2, 1) = 0
            news(0, 0) = NEVER
            tape(0, 0, 3) = 1
            item(0, 1, 1) = 1
            item(0, 2, 2) = 1
            law "way 1 a<9;steps 2" = 0
            judge(0, 0, 2) = 2
            law "way 1 a<9;steps 1" = 1
            judge(0, 0, 2) = -12
            judge(0, 0, 1) = 1
            law "way 1 a<9;steps 0" = 2
            judge(0, 0, 1) = -11
            judge(0, 0, 0) = 0
            """);
    }

    private static void judgeHours() {
        edge("4 JUDGED: the HOUR at which NEWS comes so, though it KNOWS sooner", """
            3 times name(1)
            law "way 10 s=1;way 1 s=2" = 0
            join(0, 1, 1) = 0
            join(1, 2, 1) = 0
            join(0, 2, 2) = 0
            news(0, 5) = NEVER
            news(1, 6) = NEVER
            tape(0, 0, 3) = 1
            item(0, 1, 1) = 1
            item(0, 2, 2) = 1
            judge(0, 0, 2) = 25
            judge(0, 1, 2) = 16
            knows(2) = 6
            """);
        edge("4 JUDGED: the HOUR: the latest that there is", """
            2 times name(1)
            law "way 999 a<9" = 0
            join(0, 1, 1) = 0
            news(0, 99) = NEVER
            news(1, 0) = NEVER
            tape(0, 0, 60) = 1
            item(0, 59, 1) = 1
            judge(0, 58, 1) = 1098
            judge(0, 59, 1) = 0
            judge(0, 58, 0) = 99
            """);
        edge("4 JUDGED: the NAME last: at its first place", """
            2 times name(1)
            law "way 3 a<9" = 0
            join(0, 1, 1) = 0
            news(0, 0) = NEVER
            tape(0, 0, 4) = 1
            item(0, 1, 1) = 1
            item(0, 3, 1) = 1
            judge(0, 0, 1) = 3
            judge(0, 0, 0) = 0
            """);
    }
}
