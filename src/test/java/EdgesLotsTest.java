/** The document's edges, sentence by sentence: promises 19 to 24, lots, asking, blanks. */
public final class EdgesLotsTest {
    private static final Due due = new Due("EdgesLotsTest");

    public static void main(String[] args) {
        partedRefusals();
        partedLots();
        partedWatch();
        watchRefusals();
        watchAnswers();
        watchNone();
        askRefusals();
        ask();
        blankNumbers();
        blankRefusals();
        fills();
        fillsRefusals();
        filled();
        due.end();
    }

    private static void edge(String sentence, String calls) {
        Script.run(due, sentence, calls);
    }

    private static void partedRefusals() {
        edge("19 parted: BAD: lots (0 .. 999)", """
            parted(-1, 0) = BAD
            parted(1000, 0) = BAD
            parted(MIN, 0) = BAD
            parted(MAX, 0) = BAD
            parted(0, 0) = 0
            parted(999, 0) = NEVER
            """);
        edge("19 parted: BAD: .. hour", """
            parted(0, -1) = BAD
            parted(0, 100) = BAD
            parted(1, MIN) = BAD
            parted(1, MAX) = BAD
            parted(0, 0) = 0
            parted(0, 99) = 0
            """);
    }

    private static void partedLots() {
        edge("3 PARTED: .. by NAMES that KNOW by an HOUR", """
            3 times name(1)
            parted(1, 99) = NEVER
            news(0, 10) = NEVER
            news(1, 99) = NEVER
            parted(1, 9) = NEVER
            parted(1, 10) = 1
            parted(1996, 99) = BAD
            parted(999, 98) = NEVER
            parted(999, 99) = 2
            law "way 5 a=0" = 0
            join(0, 2, 1) = 0
            parted(999, 14) = NEVER
            parted(999, 15) = 2
            """);
        edge("3 PARTED: (0 .. 8): none for no LOTS", """
            parted(0, 0) = 0
            2 times name(1)
            parted(0, 0) = 0
            news(0, 0) = NEVER
            parted(0, 0) = 0
            law "watch 0" = 0
            parted(0, 0) = 0
            parted(1, 0) = NEVER
            """);
        edge("3 PARTED: (0 .. 8): all eight; -5: they can't", """
            8 times name(1)
            news(0, 0)
            news(1, 0)
            news(2, 0)
            news(3, 0)
            news(4, 0)
            news(5, 0)
            news(6, 0)
            news(7, 0)
            law "watch 2" = 0
            parted(7, 0) = 7
            parted(8, 0) = 8
            parted(9, 0) = NEVER
            law "watch 101" = 1
            parted(700, 0) = 7
            parted(701, 0) = 8
            parted(800, 0) = 8
            parted(801, 0) = NEVER
            law "watch 125" = 2
            parted(992, 0) = 8
            parted(993, 0) = NEVER
            law "watch 126" = 3
            parted(999, 0) = 8
            """);
    }

    private static void partedWatch() {
        edge("3 PARTED: each below watch", """
            2 times name(1)
            news(0, 0) = NEVER
            news(1, 0) = NEVER
            law "watch 10" = 0
            parted(8, 0) = 1
            parted(9, 0) = 1
            parted(10, 0) = 2
            parted(18, 0) = 2
            parted(19, 0) = NEVER
            law "watch 999;watch 9" = 1
            parted(8, 0) = 1
            parted(9, 0) = 2
            """);
        edge("3 PARTED: .. watch (999 without), 0, 1, 2, 999", """
            name(1) = 0
            news(0, 0) = NEVER
            parted(998, 0) = 1
            parted(999, 0) = NEVER
            law "watch 999" = 0
            parted(998, 0) = 1
            parted(999, 0) = NEVER
            law "watch 0" = 1
            parted(1, 0) = NEVER
            law "watch 1" = 2
            parted(1, 0) = NEVER
            law "watch 2" = 3
            parted(1, 0) = 1
            parted(2, 0) = NEVER
            law "paper 1" = 4
            parted(998, 0) = 1
            parted(999, 0) = NEVER
            """);
    }

    private static void watchRefusals() {
        edge("20 watch: BAD: lots, hour", """
            watch(-1, 0, 8) = BAD
            watch(1000, 0, 8) = BAD
            watch(MIN, 0, 8) = BAD
            watch(MAX, 0, 8) = BAD
            watch(0, -1, 8) = BAD
            watch(0, 100, 8) = BAD
            watch(0, MIN, 8) = BAD
            watch(0, MAX, 8) = BAD
            watch(0, 0, 8) = 1
            watch(0, 99, 8) = 1
            watch(999, 99, 8) = NEVER
            """);
        edge("20 watch: BAD: .. k (0 .. 8)", """
            watch(0, 0, -1) = BAD
            watch(0, 0, 9) = BAD
            watch(0, 0, MIN) = BAD
            watch(0, 0, MAX) = BAD
            watch(1, 0, -1) = BAD
            watch(1, 0, 9) = BAD
            watch(0, 0, 0) = 1
            watch(0, 0, 8) = 1
            """);
    }

    private static void watchAnswers() {
        edge("3 WATCH: the least watch .. with which no more than k of them can buy all", """
            3 times name(1)
            news(0, 0) = NEVER
            news(1, 0) = NEVER
            news(2, 5) = NEVER
            watch(10, 4, 1) = 11
            watch(10, 4, 2) = 6
            watch(10, 4, 3) = 6
            watch(10, 5, 3) = 5
            watch(10, 5, 8) = 5
            watch(9, 5, 3) = 4
            watch(1, 5, 1) = 2
            watch(1, 5, 8) = 2
            watch(3, 5, 3) = 2
            watch(4, 5, 3) = 3
            """);
        edge("3 WATCH: (.. all else as it is): whatever the LAW's watch", """
            2 times name(1)
            law "watch 3;way 5 a=0" = 0
            join(0, 1, 1) = 0
            news(0, 0) = NEVER
            watch(10, 4, 8) = 11
            watch(10, 5, 8) = 6
            parted(10, 5) = NEVER
            """);
        edge("3 WATCH: (1 .. 999): the least, the most", """
            2 times name(1)
            news(0, 0) = NEVER
            watch(0, 0, 0) = 1
            watch(0, 0, 1) = 1
            watch(997, 0, 1) = 998
            watch(998, 0, 1) = 999
            watch(999, 0, 1) = NEVER
            news(1, 0) = NEVER
            watch(999, 0, 1) = NEVER
            watch(999, 0, 2) = 501
            """);
        edge("3 WATCH: by eight", """
            8 times name(1)
            news(0, 0)
            news(1, 0)
            news(2, 0)
            news(3, 0)
            news(4, 0)
            news(5, 0)
            news(6, 0)
            news(7, 0)
            watch(999, 0, 8) = 126
            watch(999, 0, 7) = 144
            watch(8, 0, 8) = 2
            watch(9, 0, 8) = 3
            watch(0, 0, 8) = 1
            """);
    }

    private static void watchNone() {
        edge("3 WATCH: -5: none: by nobody, for nobody knows", """
            watch(1, 0, 8) = NEVER
            2 times name(1)
            watch(1, 99, 8) = NEVER
            watch(0, 99, 8) = 1
            news(0, 50) = NEVER
            watch(1, 49, 8) = NEVER
            watch(1, 50, 8) = 2
            """);
        edge("3 WATCH: -5: none: by no more than 0", """
            name(1) = 0
            news(0, 0) = NEVER
            watch(1, 0, 0) = NEVER
            watch(0, 0, 0) = 1
            watch(1, 0, 1) = 2
            """);
    }

    private static void askRefusals() {
        edge("21 ask: NONE: no NAMES, ahead of BAD", """
            ask(0) = NONE
            ask(99) = NONE
            ask(100) = NONE
            ask(-1) = NONE
            """);
        edge("21 ask: BAD: hour", """
            name(1) = 0
            ask(-1) = BAD
            ask(100) = BAD
            ask(MIN) = BAD
            ask(MAX) = BAD
            ask(0) = 0
            ask(99) = 0
            """);
    }

    private static void ask() {
        edge("3 ASK: .. leaves most of those that KNOW by an HOUR not knowing by it", """
            5 times name(1)
            law "way 10 a<9" = 0
            join(1, 2, 1) = 0
            join(2, 3, 1) = 0
            join(2, 4, 1) = 0
            news(1, 0) = NEVER
            ask(9) = 0
            ask(10) = 1
            ask(20) = 1
            news(2, 15) = NEVER
            ask(24) = 1
            ask(25) = 2
            ask(14) = 1
            """);
        edge("3 ASK: (itself not counting)", """
            3 times name(1)
            law "way 10 a<9" = 0
            join(1, 2, 1) = 0
            news(0, 0) = NEVER
            news(1, 0) = NEVER
            ask(9) = 0
            ask(10) = 1
            """);
        edge("3 ASK: (.. of several the least)", """
            6 times name(1)
            law "way 10 a<9" = 0
            join(2, 3, 1) = 0
            join(4, 5, 1) = 0
            news(4, 0) = NEVER
            ask(99) = 4
            news(2, 0) = NEVER
            ask(99) = 2
            join(4, 1, 1) = 0
            ask(99) = 4
            """);
        edge("3 ASK: nobody knows, or nobody is told: the first NAME", """
            8 times name(1)
            ask(0) = 0
            news(7, 0) = NEVER
            ask(99) = 0
            join(6, 7, 1) = 0
            law "way 0 a=7" = 0
            ask(0) = 7
            """);
    }

    private static void blankNumbers() {
        edge("22 blank: how many there are; FULL: 6", """
            name(4) = 0
            name(5) = 1
            blank(1) = 1
            blank(12) = 2
            blank(1) = 3
            blank(2) = 4
            blank(3) = 5
            blank(4) = 6
            count(3) = 6
            blank(5) = FULL
            blank(1) = FULL
            blank(12) = FULL
            count(3) = 6
            fills(5) = {0}
            """);
        edge("22 blank: (letters -1: there are none then, 0)", """
            name(3) = 0
            blank(-1) = 0
            6 times blank(3)
            blank(3) = FULL
            blank(-1) = 0
            count(3) = 0
            fills(0) = NONE
            fills(5) = NONE
            filled(0) = NONE
            fills(-1) = 1
            blank(3) = 1
            fills(0) = {0}
            fills(1) = NONE
            blank(-1) = 0
            blank(-1) = 0
            """);
    }

    private static void blankRefusals() {
        edge("22 blank: BAD (LETTERS 1 .. 12)", """
            blank(0) = BAD
            blank(13) = BAD
            blank(-2) = BAD
            blank(MIN) = BAD
            blank(MAX) = BAD
            count(3) = 0
            blank(1) = 1
            blank(12) = 2
            """);
        edge("22 blank: BAD ahead of FULL", """
            6 times blank(1)
            blank(0) = BAD
            blank(13) = BAD
            blank(-2) = BAD
            blank(1) = FULL
            """);
    }

    private static void fills() {
        edge("3 BLANKS: the NAMES that may fill a BLANK of n LETTERS: bits", """
            name(1) = 0
            name(12) = 1
            name(1) = 2
            name(2) = 3
            name(1) = 4
            name(11) = 5
            name(12) = 6
            name(1) = 7
            blank(1) = 1
            blank(12) = 2
            blank(2) = 3
            blank(11) = 4
            blank(10) = 5
            fills(0) = {0 2 4 7}
            fills(1) = {1 6}
            fills(2) = {3}
            fills(3) = {5}
            fills(4) = {}
            """);
        edge("3 FILLED: how many ways: none, one, most", """
            fills(-1) = 1
            8 times name(4)
            fills(-1) = 1
            blank(4) = 1
            fills(-1) = 8
            blank(4) = 2
            fills(-1) = 56
            blank(4) = 3
            fills(-1) = 336
            blank(4) = 4
            fills(-1) = 1680
            blank(4) = 5
            fills(-1) = 6720
            blank(4) = 6
            fills(-1) = 20160
            """);
        edge("3 FILLED: with unlike NAMES", """
            name(4) = 0
            name(4) = 1
            name(5) = 2
            blank(4) = 1
            blank(4) = 2
            fills(-1) = 2
            blank(5) = 3
            fills(-1) = 2
            blank(4) = 4
            fills(-1) = 0
            name(4) = 3
            fills(-1) = 6
            blank(5) = 5
            fills(-1) = 0
            """);
        edge("3 FILLED: no NAME of so many LETTERS", """
            blank(4) = 1
            fills(-1) = 0
            fills(0) = {}
            name(5) = 0
            fills(-1) = 0
            name(4) = 1
            fills(-1) = 1
            """);
    }

    private static void fillsRefusals() {
        edge("23 fills: NONE: no such BLANK", """
            fills(0) = NONE
            fills(-2) = NONE
            blank(1) = 1
            fills(0) = 0
            fills(1) = NONE
            fills(-2) = NONE
            5 times blank(1)
            fills(5) = 0
            fills(6) = NONE
            fills(MIN) = NONE
            fills(MAX) = NONE
            fills(-1) = 0
            """);
        edge("24 filled: NONE", """
            filled(0) = NONE
            filled(-1) = NONE
            blank(1) = 1
            filled(0) = NEVER
            filled(1) = NONE
            filled(-1) = NONE
            5 times blank(1)
            filled(5) = NEVER
            filled(6) = NONE
            filled(MIN) = NONE
            filled(MAX) = NONE
            """);
    }

    private static void filled() {
        edge("3 SURE of a BLANK: the NAME that fills it in all; -5: none", """
            name(4) = 0
            name(5) = 1
            name(4) = 2
            blank(5) = 1
            filled(0) = 1
            blank(4) = 2
            filled(0) = 1
            filled(1) = NEVER
            blank(4) = 3
            fills(-1) = 2
            filled(1) = NEVER
            filled(2) = NEVER
            name(5) = 3
            filled(0) = NEVER
            """);
        edge("3 SURE of a BLANK: the first NAME and the last", """
            name(1) = 0
            6 times name(2)
            name(3) = 7
            blank(3) = 1
            blank(1) = 2
            filled(0) = 7
            filled(1) = 0
            """);
        edge("3 SURE of a BLANK: -5, where there is no way to fill all", """
            name(4) = 0
            name(5) = 1
            blank(4) = 1
            blank(5) = 2
            filled(0) = 0
            blank(5) = 3
            fills(-1) = 0
            filled(0) = NEVER
            filled(1) = NEVER
            filled(2) = NEVER
            blank(-1) = 0
            blank(4) = 1
            blank(6) = 2
            filled(0) = NEVER
            filled(1) = NEVER
            """);
    }
}
