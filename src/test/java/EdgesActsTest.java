/** The document's edges, sentence by sentence: promises 26 to 31, the image, acts, the trace, kinds, counts. */
public final class EdgesActsTest {
    private static final Due due = new Due("EdgesActsTest");
    /** A trade of each kind: number i is of kind i and has 10 + i lots. */
    private static final String KINDS = """
        name(1) = 0
        trade(0, 0, 0, 0, 10) = 0
        trade(1, 0, 0, 0, 11) = 1
        trade(2, 0, 0, 0, 12) = 2
        trade(3, 0, 0, 0, 13) = 3
        trade(4, 0, 0, 0, 14) = 4
        trade(5, 0, 0, 0, 15) = 5
        trade(6, 0, 0, 0, 16) = 6
        """;

    public static void main(String[] args) {
        imageAnswers();
        undoState();
        undoParts();
        undoLaws();
        undoStays();
        imagesApart();
        actRefusals();
        actNumbers();
        actWraps();
        actTraces();
        traceEdges();
        takenRefusals();
        takenKinds();
        counts();
        due.end();
    }

    private static void edge(String sentence, String calls) {
        Script.run(due, sentence, calls);
    }

    private static void imageAnswers() {
        edge("26 image: how many TRADES there are: none, all", """
            image() = 0
            name(1) = 0
            trade(0, 0, 0, 0, 1) = 0
            image() = 1
            14 times trade(0, 0, 0, 0, 1)
            image() = 15
            trade(0, 0, 0, 0, 1) = 15
            image() = 16
            undo() = 16
            trade(0, 0, 0, 0, 1) = FULL
            """);
        edge("26 image: it changes nothing but THE IMAGE", """
            2 times name(1)
            join(0, 1, 1) = 0
            news(0, 3) = NEVER
            law "way 2 a<9" = 0
            trade(3, 0, 0, 9, 1) = 0
            blank(1) = 1
            act(0, 1, 1) = 0
            image() = 1
            knows(1) = 5
            goes(0, 1) = 2
            of(0, 5) = {0 3}
            fills(0) = {0 1}
            trace = 11 10
            """);
    }

    private static void undoState() {
        edge("27 undo: STATE: there is none", """
            undo() = STATE
            name(1) = 0
            trade(0, 0, 0, 0, 1) = 0
            undo() = STATE
            count(1) = 1
            image() = 1
            undo() = 1
            undo() = 1
            """);
        edge("27 undo: how many TRADES", """
            name(1) = 0
            image() = 0
            16 times trade(0, 0, 0, 0, 1)
            trade(0, 0, 0, 0, 1) = FULL
            undo() = 0
            count(1) = 0
            of(0, 0) = NONE
            act(0, 0, 1) = 0
            count(5) = 0
            taken(0, 0) = NOTHING
            sure(1) = 0
            fridays(0) = 0
            trade(2, 0, 3, 4, 5) = 0
            of(0, 0) = 2
            """);
        edge("27 undo: THE IMAGE stays", """
            name(1) = 0
            trade(0, 0, 0, 0, 1) = 0
            image() = 1
            trade(0, 0, 0, 0, 1) = 1
            undo() = 1
            trade(0, 0, 0, 0, 1) = 1
            trade(0, 0, 0, 0, 1) = 2
            undo() = 1
            """);
    }

    private static void undoParts() {
        edge("3 THE IMAGE: JOININGS", """
            3 times name(1)
            join(0, 1, 3) = 0
            image() = 0
            join(0, 1, 0) = 3
            join(1, 2, 5) = 0
            undo() = 0
            join(0, 1, 2) = 3
            join(2, 1, 2) = 0
            undo() = 0
            join(1, 0, 0) = 3
            join(1, 2, 0) = 0
            """);
        edge("3 THE IMAGE: NEWS", """
            3 times name(1)
            news(0, 0) = NEVER
            news(2, 99) = NEVER
            image() = 0
            news(0, -1) = 0
            news(1, 5) = NEVER
            news(2, 98) = 99
            undo() = 0
            knows(0) = 0
            knows(1) = NEVER
            knows(2) = 99
            news(0, 7) = 0
            news(1, 7) = NEVER
            news(2, 7) = 99
            """);
        edge("3 THE IMAGE: TRADES", """
            8 times name(1)
            trade(6, 7, 8, 99, 98) = 0
            image() = 1
            trade(1, 2, 3, 4, 5) = 1
            undo() = 1
            trade(5, 6, 7, 8, 9) = 1
            of(1, 0) = 5
            undo() = 1
            of(0, 0) = 6
            of(0, 1) = 7
            of(0, 2) = 8
            of(0, 3) = 99
            of(0, 4) = 98
            of(1, 0) = NONE
            fridays(7) = {8}
            fridays(6) = {}
            """);
        edge("3 THE IMAGE: BLANKS", """
            name(1) = 0
            name(12) = 1
            blank(12) = 1
            blank(1) = 2
            image() = 0
            blank(-1) = 0
            blank(1) = 1
            undo() = 0
            count(3) = 2
            fills(0) = {1}
            fills(1) = {0}
            4 times blank(1)
            blank(1) = FULL
            undo() = 0
            blank(1) = 3
            blank(-1) = 0
            undo() = 0
            fills(0) = {1}
            """);
        edge("3 THE IMAGE: (NAMES stay), joined to none and without NEWS", """
            2 times name(1)
            join(0, 1, 1) = 0
            image() = 0
            name(7) = 2
            join(0, 2, 4) = 0
            news(2, 4) = NEVER
            undo() = 0
            count(0) = 3
            join(2, 0, 0) = 0
            news(2, -1) = NEVER
            blank(7) = 1
            fills(0) = {2}
            5 times name(1)
            undo() = 0
            name(1) = FULL
            """);
    }

    private static void undoLaws() {
        edge("3 THE IMAGE: .. which LAW holds: the first, though newer ones are there", """
            2 times name(1)
            join(0, 1, 1) = 0
            law "way 3 a<9" = 0
            image() = 0
            law "way 4 a<9" = 1
            goes(0, 1) = 4
            undo() = 0
            goes(0, 1) = 3
            count(2) = 2
            law "way 5 a<9" = 2
            goes(0, 1) = 5
            undo() = 0
            goes(0, 1) = 3
            """);
        edge("3 THE IMAGE: .. which LAW holds: none", """
            2 times name(1)
            join(0, 1, 1) = 0
            image() = 0
            law "way 4 a<9;habit 9 a<9" = 0
            goes(0, 1) = 4
            undo() = 0
            goes(0, 1) = NEVER
            habit(0, 0) = 0
            count(2) = 1
            law "paper;" = -15
            goes(0, 1) = NEVER
            """);
        edge("3 THE IMAGE: .. which LAW holds: the last; there are 6 still", """
            2 times name(1)
            join(0, 1, 1) = 0
            5 times law "paper 1"
            image() = 0
            law "way 9 a<9" = 5
            undo() = 0
            goes(0, 1) = NEVER
            count(2) = 6
            law "way 1 a<9" = FULL
            goes(0, 1) = NEVER
            """);
    }

    private static void undoStays() {
        edge("3 THE IMAGE: nothing else: THE TEXT, THE TRACE, TAPES stay", """
            name(1) = 0
            trade(0, 0, 0, 0, 5) = 0
            feed "paper " = 6
            tape(0, 2, 3) = 1
            item(0, 1, 5) = 1
            act(0, 0, 7) = 7
            image() = 1
            feed "7" = 7
            item(0, 1, 6) = 1
            tape(5, 3, 1) = 1
            act(0, 2, 7) = 4
            undo() = 1
            count(4) = 7
            trace = 12 11 10
            read(0, 1) = 6
            read(5, 0) = 0
            law() = 0
            """);
    }

    private static void imagesApart() {
        edge("26 image: a new one takes the place of the old one", """
            2 times name(1)
            news(0, 1) = NEVER
            image() = 0
            news(0, 2) = 1
            trade(0, 0, 0, 0, 1) = 0
            blank(1) = 1
            join(0, 1, 2) = 0
            law "way 6 a<9" = 0
            image() = 1
            news(0, 3) = 2
            blank(1) = 2
            join(0, 1, 4) = 2
            law "way 7 a<9" = 1
            trade(0, 0, 0, 0, 1) = 1
            undo() = 1
            knows(0) = 2
            count(3) = 1
            goes(0, 1) = 6
            join(0, 1, 0) = 2
            """);
        edge("27 undo: what is changed behind it is not changed in THE IMAGE", """
            2 times name(1)
            trade(3, 0, 1, 2, 3) = 0
            blank(5) = 1
            image() = 1
            undo() = 1
            join(0, 1, 2) = 0
            news(0, 2) = NEVER
            trade(4, 1, 5, 6, 7) = 1
            blank(1) = 2
            undo() = 1
            join(0, 1, 0) = 0
            news(0, 0) = NEVER
            count(1) = 1
            count(3) = 1
            """);
    }

    private static void actRefusals() {
        edge("28 act: 0, and no TRACE then: no such TRADE", """
            name(1) = 0
            act(0, 0, 5) = 0
            count(5) = 0
            trade(0, 0, 0, 0, 1) = 0
            act(0, 2, 5) = 8
            trace = 12 11 10
            act(1, 0, 5) = 0
            trace = none
            act(0, 2, 5) = 8
            act(-1, 0, 5) = 0
            trace = none
            act(0, 2, 5) = 8
            act(MIN, 0, 5) = 0
            count(5) = 0
            act(0, 2, 5) = 8
            act(MAX, 0, 5) = 0
            count(5) = 0
            trace(0) = NONE
            """);
        edge("28 act: 0, and no TRACE then: no such .. act (0 .. 2)", """
            name(1) = 0
            trade(0, 0, 0, 0, 1) = 0
            act(0, 0, 5) = 5
            act(0, -1, 5) = 0
            trace = none
            act(0, 1, 5) = 4
            act(0, 3, 5) = 0
            trace = none
            act(0, 2, 5) = 8
            act(0, MIN, 5) = 0
            trace = none
            act(0, 2, 5) = 8
            act(0, MAX, 5) = 0
            trace = none
            """);
        edge("28 act: no such TRADE beyond the last of sixteen", """
            name(1) = 0
            16 times trade(0, 0, 0, 0, 1)
            act(15, 0, 5) = 20
            trace = 10
            act(16, 0, 5) = 0
            trace = none
            """);
    }

    private static void actNumbers() {
        edge("3 ACTS: i its number, n its LOTS", """
            name(1) = 0
            trade(0, 0, 0, 0, 1) = 0
            14 times trade(0, 0, 0, 0, 50)
            trade(0, 0, 0, 0, 99) = 15
            act(0, 0, 0) = 0
            act(0, 1, 0) = -1
            act(0, 2, 0) = -2
            act(15, 0, 0) = 15
            act(15, 1, 0) = -84
            act(15, 2, 0) = -168
            act(15, 0, -15) = 0
            """);
        edge("3 BODIES: of each KIND", KINDS + """
            act(0, 0, 5) = 5
            act(0, 1, 5) = -5
            act(0, 2, 5) = -10
            act(1, 0, 5) = 6
            act(1, 1, 5) = -3
            act(1, 2, 5) = -6
            act(2, 0, 5) = 17
            act(2, 1, 5) = 5
            act(2, 2, 5) = 10
            act(3, 0, 5) = 8
            act(3, 1, 5) = -5
            act(3, 2, 5) = -19
            act(4, 0, 5) = -9
            act(4, 1, 5) = -18
            act(4, 2, 5) = -36
            act(5, 0, 5) = 10
            act(5, 1, 5) = -5
            act(5, 2, 5) = -29
            act(6, 0, 5) = 27
            act(6, 1, 5) = 19
            act(6, 2, 5) = 53
            """);
    }

    private static void actWraps() {
        edge("3 ACTS (wrapping): TRADE", """
            name(1) = 0
            trade(0, 0, 0, 0, 1) = 0
            trade(0, 0, 0, 0, 1) = 1
            act(1, 0, MAX) = MIN
            act(0, 0, MAX) = MAX
            act(0, 1, MIN) = MAX
            act(0, 2, 1073741825) = MIN
            act(0, 2, MIN) = -2
            act(0, 2, MAX) = -4
            """);
        edge("3 ACTS (wrapping): each KIND", """
            name(1) = 0
            trade(0, 0, 0, 0, 1) = 0
            trade(1, 0, 0, 0, 2) = 1
            trade(2, 0, 0, 0, 1) = 2
            trade(3, 0, 0, 0, 3) = 3
            trade(4, 0, 0, 0, 1) = 4
            trade(5, 0, 0, 0, 6) = 5
            trade(6, 0, 0, 0, 8) = 6
            act(1, 1, MIN) = 2147483641
            act(2, 0, 1431655765) = 1
            act(2, 0, MAX) = MAX
            act(3, 2, 1073741824) = -2147483647
            act(3, 2, MAX) = -1
            act(4, 0, 2147483644) = MIN
            act(4, 1, MAX) = 2147483645
            act(5, 2, MIN) = -12
            act(6, 0, MAX) = -2147483635
            act(6, 1, MAX) = -2147483635
            """);
    }

    private static void actTraces() {
        edge("3 buys(..) .. the body of its KIND, or .. of the next KIND above; from the left on: buys", KINDS + """
            act(0, 0, 5)
            trace = 10
            act(1, 0, 5)
            trace = 10
            act(2, 0, 5)
            trace = 30 10
            act(3, 0, 5)
            trace = 10
            act(4, 0, 5)
            trace = 50 10
            act(5, 0, 5)
            trace = 10
            act(6, 0, 5)
            trace = 71 10
            """);
        edge("3 buys(..) .. the body of its KIND, or .. of the next KIND above; from the left on: knows", KINDS + """
            act(0, 1, 5)
            trace = 11 10
            act(1, 1, 5)
            trace = 20 11 10
            act(2, 1, 5)
            trace = 11 30 10
            act(3, 1, 5)
            trace = 11 10
            act(4, 1, 5)
            trace = 51 20 11 50 10
            act(5, 1, 5)
            trace = 11 10
            act(6, 1, 5)
            trace = 70 11 71 10 10
            """);
        edge("3 buys(..) .. the body of its KIND, or .. of the next KIND above; from the left on: tells", KINDS + """
            act(0, 2, 5)
            trace = 12 11 10
            act(1, 2, 5)
            trace = 12 20 11 10
            act(2, 2, 5)
            trace = 12 11 30 10
            act(3, 2, 5)
            trace = 40 12 11 10 11 10
            act(4, 2, 5)
            trace = 12 51 20 11 50 10
            act(5, 2, 5)
            trace = 60 40 12 11 10 11 10
            act(6, 2, 5)
            trace = 40 12 70 11 71 10 10 70 11 71 10 10
            """);
    }

    private static void traceEdges() {
        edge("29 trace: NONE", KINDS + """
            trace(0) = NONE
            act(6, 2, 5) = 53
            count(5) = 12
            trace(-1) = NONE
            trace(0) = 40
            trace(11) = 10
            trace(12) = NONE
            trace(19) = NONE
            trace(20) = NONE
            trace(MIN) = NONE
            trace(MAX) = NONE
            """);
        edge("3 THE TRACE: .. in the latest act()", KINDS + """
            act(6, 2, 5) = 53
            act(1, 1, 5) = -3
            trace = 20 11 10
            act(0, 0, 5) = 5
            trace = 10
            act(7, 0, 5) = 0
            trace = none
            """);
    }

    private static void takenRefusals() {
        edge("30 taken: BAD: k (0 .. 6)", """
            name(1) = 0
            trade(6, 0, 0, 0, 1) = 0
            taken(0, -1) = BAD
            taken(0, 7) = BAD
            taken(0, MIN) = BAD
            taken(0, MAX) = BAD
            taken(0, 0) = 6
            taken(0, 6) = 6
            """);
        edge("30 taken: NOTHING: no such TRADE", """
            name(1) = 0
            taken(0, 0) = NOTHING
            trade(0, 0, 0, 0, 1) = 0
            taken(-1, 0) = NOTHING
            taken(1, 0) = NOTHING
            taken(MIN, 0) = NOTHING
            taken(MAX, 6) = NOTHING
            15 times trade(6, 0, 0, 0, 1)
            taken(15, 6) = 6
            taken(16, 6) = NOTHING
            """);
        edge("30 taken: BAD ahead of NOTHING", """
            taken(0, 7) = BAD
            taken(-1, -1) = BAD
            """);
    }

    private static void takenKinds() {
        edge("30 taken: KIND k, or one under that: its KIND; CAST: as TRADE, USUAL, HEARD, KNOWN", KINDS + """
            taken(0, 0) = 0
            taken(1, 0) = 1
            taken(2, 0) = 2
            taken(3, 0) = 3
            taken(4, 0) = 4
            taken(5, 0) = 5
            taken(6, 0) = 6
            taken(0, 1) = CAST
            taken(1, 1) = 1
            taken(2, 1) = CAST
            taken(3, 1) = CAST
            taken(4, 1) = 4
            taken(5, 1) = CAST
            taken(6, 1) = CAST
            taken(0, 2) = CAST
            taken(1, 2) = CAST
            taken(2, 2) = 2
            taken(3, 2) = CAST
            taken(4, 2) = CAST
            taken(5, 2) = CAST
            taken(6, 2) = CAST
            taken(0, 3) = CAST
            taken(1, 3) = CAST
            taken(2, 3) = CAST
            taken(3, 3) = 3
            taken(4, 3) = CAST
            taken(5, 3) = 5
            taken(6, 3) = 6
            """);
        edge("30 taken: KIND k, or one under that: its KIND; CAST: as LUCKY, HANDED, SPLIT", KINDS + """
            taken(0, 4) = CAST
            taken(1, 4) = CAST
            taken(2, 4) = CAST
            taken(3, 4) = CAST
            taken(4, 4) = 4
            taken(5, 4) = CAST
            taken(6, 4) = CAST
            taken(0, 5) = CAST
            taken(1, 5) = CAST
            taken(2, 5) = CAST
            taken(3, 5) = CAST
            taken(4, 5) = CAST
            taken(5, 5) = 5
            taken(6, 5) = CAST
            taken(0, 6) = CAST
            taken(1, 6) = CAST
            taken(2, 6) = CAST
            taken(3, 6) = CAST
            taken(4, 6) = CAST
            taken(5, 6) = CAST
            taken(6, 6) = 6
            """);
    }

    private static void counts() {
        edge("31 count: BAD", """
            count(-1) = BAD
            count(6) = BAD
            count(MIN) = BAD
            count(MAX) = BAD
            count(0) = 0
            count(5) = 0
            """);
        edge("31 count: all is full", """
            8 times name(1)
            15 times trade(0, 0, 0, 0, 1)
            trade(6, 0, 0, 0, 1) = 15
            6 times law "paper 1"
            6 times blank(1)
            25 times feed(0, 4)
            act(15, 2, 0)
            count(0) = 8
            count(1) = 16
            count(2) = 6
            count(3) = 6
            count(4) = 100
            count(5) = 12
            """);
    }
}
