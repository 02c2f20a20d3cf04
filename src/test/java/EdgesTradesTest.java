/** The document's edges, sentence by sentence: promises 12 to 18, trades and what is told of them. */
public final class EdgesTradesTest {
    private static final Due due = new Due("EdgesTradesTest");

    public static void main(String[] args) {
        tradeNumbers();
        tradeNone();
        tradeBad();
        tradeOrder();
        of();
        whateverItsKind();
        usualAndLucky();
        heard();
        known();
        handed();
        splitWatch();
        splitFellow();
        sure();
        wrong();
        sureRefusals();
        fridays();
        againRefusals();
        againFridays();
        againFractions();
        looked();
        oddest();
        ringRefusals();
        alike();
        ring();
        due.end();
    }

    private static void edge(String sentence, String calls) {
        Script.run(due, sentence, calls);
    }

    private static void tradeNumbers() {
        edge("2 TRADES 0 .. 15, as they come; 12 trade: its number; FULL", """
            name(1) = 0
            trade(0, 0, 0, 0, 1) = 0
            trade(6, 0, 0, 0, 1) = 1
            12 times trade(0, 0, 0, 0, 1)
            trade(0, 0, 0, 0, 1) = 14
            trade(5, 0, 8, 99, 99) = 15
            count(1) = 16
            trade(0, 0, 0, 0, 1) = FULL
            trade(6, 0, 8, 99, 99) = FULL
            count(1) = 16
            of(15, 0) = 5
            of(16, 0) = NONE
            """);
        edge("12 trade: what the first and the last one are", """
            8 times name(1)
            trade(6, 7, 8, 99, 99) = 0
            trade(0, 0, 0, 0, 1) = 1
            of(0, 0) = 6
            of(0, 1) = 7
            of(0, 2) = 8
            of(0, 3) = 99
            of(0, 4) = 99
            of(1, 0) = 0
            of(1, 1) = 0
            of(1, 2) = 0
            of(1, 3) = 0
            of(1, 4) = 1
            """);
    }

    private static void tradeNone() {
        edge("12 trade: NONE: kind", """
            name(1) = 0
            trade(-1, 0, 0, 0, 1) = NONE
            trade(7, 0, 0, 0, 1) = NONE
            trade(MIN, 0, 0, 0, 1) = NONE
            trade(MAX, 0, 0, 0, 1) = NONE
            trade(0, 0, 0, 0, 1) = 0
            trade(6, 0, 0, 0, 1) = 1
            """);
        edge("12 trade: NONE: .. name", """
            trade(0, 0, 0, 0, 1) = NONE
            3 times name(1)
            trade(0, -1, 0, 0, 1) = NONE
            trade(0, 3, 0, 0, 1) = NONE
            trade(0, MIN, 0, 0, 1) = NONE
            trade(0, MAX, 0, 0, 1) = NONE
            trade(0, 2, 0, 0, 1) = 0
            5 times name(1)
            trade(0, 8, 0, 0, 1) = NONE
            trade(0, 7, 0, 0, 1) = 1
            """);
        edge("12 trade: NONE: .. friday; 2 a FRIDAY (0 .. 8)", """
            name(1) = 0
            trade(0, 0, -1, 0, 1) = NONE
            trade(0, 0, 9, 0, 1) = NONE
            trade(0, 0, MIN, 0, 1) = NONE
            trade(0, 0, MAX, 0, 1) = NONE
            trade(0, 0, 0, 0, 1) = 0
            trade(0, 0, 8, 0, 1) = 1
            """);
    }

    private static void tradeBad() {
        edge("12 trade: BAD: hour; 2 an HOUR (0 .. 99)", """
            name(1) = 0
            trade(0, 0, 0, -1, 1) = BAD
            trade(0, 0, 0, 100, 1) = BAD
            trade(0, 0, 0, MIN, 1) = BAD
            trade(0, 0, 0, MAX, 1) = BAD
            trade(0, 0, 0, 0, 1) = 0
            trade(0, 0, 0, 99, 1) = 1
            """);
        edge("12 trade: BAD: .. lots; 2 so many LOTS (1 .. 99)", """
            name(1) = 0
            trade(0, 0, 0, 0, 0) = BAD
            trade(0, 0, 0, 0, 100) = BAD
            trade(0, 0, 0, 0, -1) = BAD
            trade(0, 0, 0, 0, MIN) = BAD
            trade(0, 0, 0, 0, MAX) = BAD
            trade(0, 0, 0, 0, 1) = 0
            trade(0, 0, 0, 0, 99) = 1
            """);
    }

    private static void tradeOrder() {
        edge("12 trade: NONE ahead of BAD", """
            name(1) = 0
            trade(7, 0, 0, 100, 1) = NONE
            trade(7, 0, 0, 0, 0) = NONE
            trade(0, 1, 0, -1, 1) = NONE
            trade(0, 1, 0, 0, 100) = NONE
            trade(0, 0, 9, 100, 1) = NONE
            trade(0, 0, 9, 0, 0) = NONE
            """);
        edge("12 trade: NONE and BAD ahead of FULL", """
            name(1) = 0
            16 times trade(0, 0, 0, 0, 1)
            trade(7, 0, 0, 0, 1) = NONE
            trade(0, 1, 0, 0, 1) = NONE
            trade(0, 0, 9, 0, 1) = NONE
            trade(0, 0, 0, 100, 1) = BAD
            trade(0, 0, 0, 0, 0) = BAD
            trade(0, 0, 0, 0, 1) = FULL
            """);
    }

    private static void of() {
        edge("13 of: NONE: no such TRADE", """
            name(1) = 0
            of(0, 0) = NONE
            of(0, 5) = NONE
            trade(2, 0, 3, 4, 5) = 0
            of(-1, 0) = NONE
            of(1, 0) = NONE
            of(1, 5) = NONE
            of(MIN, 0) = NONE
            of(MAX, 5) = NONE
            of(0, 0) = 2
            """);
        edge("13 of: NONE: no such what (0 .. 5)", """
            name(1) = 0
            trade(2, 0, 3, 4, 5) = 0
            of(0, -1) = NONE
            of(0, 0) = 2
            of(0, 1) = 0
            of(0, 2) = 3
            of(0, 3) = 4
            of(0, 4) = 5
            of(0, 5) = {0}
            of(0, 6) = NONE
            of(0, MIN) = NONE
            of(0, MAX) = NONE
            """);
        edge("2 ALL that EXPLAIN: none but TRADE; all of them but one", """
            2 times name(1)
            trade(6, 0, 0, 99, 99) = 0
            of(0, 5) = {0}
            trade(0, 0, 0, 0, 1) = 1
            join(0, 1, 1) = 0
            news(1, 0) = NEVER
            law "way 0 a<9;habit 50 a<9;paper 0" = 0
            of(0, 5) = {0 1 2 3 4 5 6}
            of(1, 5) = {0 1 2 3 4 5 6}
            """);
    }

    /** Trades alike but for their own kinds: what explains them is the same. */
    private static void whateverItsKind() {
        String all = """
            2 times name(1)
            trade(0, 0, 0, 9, 9) = 0
            trade(1, 0, 0, 9, 9) = 1
            trade(2, 0, 0, 9, 9) = 2
            trade(3, 0, 0, 9, 9) = 3
            trade(4, 0, 0, 9, 9) = 4
            trade(5, 0, 0, 9, 9) = 5
            trade(6, 0, 0, 9, 9) = 6
            join(0, 1, 1) = 0
            news(1, 9) = NEVER
            """;
        StringBuilder each = new StringBuilder();
        for (int trade = 0; trade < 7; trade++) {
            each.append("of(" + trade + ", 5) = %s\n");
        }
        edge("2 ALL that EXPLAIN a TRADE, whatever its own KIND", all + """
            law "way 0 a<9;habit 50 a<9;paper 9;watch 10" = 0
            """ + each.toString().replace("%s", "127") + """
            law "way 0 a<9;watch 10" = 1
            """ + each.toString().replace("%s", "{0 3 5 6}") + """
            law "habit 49 a<9;paper 9;watch 10" = 2
            """ + each.toString().replace("%s", "{0 1 2}"));
        edge("2 SURE, whatever its own KIND", all + """
            law "way 0 a<9;watch 10" = 0
            sure(0) = 127
            sure(1) = {1 2 4}
            law "way 0 a<9;watch 10;habit 1 a<9" = 1
            sure(0) = 0
            sure(1) = {2 4}
            """);
    }

    private static void usualAndLucky() {
        edge("2 USUAL: if its HABIT is above 0", """
            2 times name(1)
            law "habit 0 a<9;habit 1 a=1&f=8" = 0
            trade(0, 0, 8, 0, 1) = 0
            trade(0, 1, 8, 0, 1) = 1
            trade(0, 1, 7, 0, 1) = 2
            of(0, 5) = {0}
            of(1, 5) = {0 1}
            of(2, 5) = {0}
            """);
        edge("2 LUCKY: if its HABIT is 50 or more", """
            4 times name(1)
            law "habit 49 a<2;habit 1 a=1;habit 51 a=2;habit 999 a=3" = 0
            trade(0, 0, 0, 0, 1) = 0
            trade(0, 1, 0, 0, 1) = 1
            trade(0, 2, 0, 0, 1) = 2
            trade(0, 3, 0, 0, 1) = 3
            of(0, 5) = {0 1}
            of(1, 5) = {0 1 4}
            of(2, 5) = {0 1 4}
            of(3, 5) = {0 1 4}
            """);
    }

    private static void heard() {
        edge("2 HEARD: if the HOUR is paper or later", """
            name(1) = 0
            trade(0, 0, 0, 49, 1) = 0
            trade(0, 0, 0, 50, 1) = 1
            trade(0, 0, 0, 51, 1) = 2
            law "paper 50" = 0
            of(0, 5) = {0}
            of(1, 5) = {0 2}
            of(2, 5) = {0 2}
            """);
        edge("1 paper: the last one's n", """
            name(1) = 0
            trade(0, 0, 0, 50, 1) = 0
            law "paper 50;watch 1;paper 51;steps 3" = 0
            of(0, 5) = {0}
            law "paper 51;paper 50" = 1
            of(0, 5) = {0 2}
            """);
        edge("1 paper: (999 without); the first HOUR, the last, none", """
            name(1) = 0
            trade(0, 0, 0, 0, 1) = 0
            trade(0, 0, 0, 99, 1) = 1
            of(0, 5) = {0}
            of(1, 5) = {0}
            law "paper 0" = 0
            of(0, 5) = {0 2}
            of(1, 5) = {0 2}
            law "paper 99" = 1
            of(0, 5) = {0}
            of(1, 5) = {0 2}
            law "paper 100" = 2
            of(1, 5) = {0}
            law "watch 0;steps 0" = 3
            of(1, 5) = {0}
            """);
    }

    private static void known() {
        edge("2 KNOWN: if it KNOWS, by the HOUR", """
            2 times name(1)
            law "way 10 a<9" = 0
            join(0, 1, 1) = 0
            trade(0, 0, 0, 20, 1) = 0
            trade(0, 1, 0, 30, 1) = 1
            of(0, 5) = {0}
            news(0, 21) = NEVER
            of(0, 5) = {0}
            of(1, 5) = {0}
            news(0, 20) = 21
            of(0, 5) = {0 3}
            of(1, 5) = {0 3 5}
            news(0, 19) = 20
            of(0, 5) = {0 3}
            of(1, 5) = {0 3 5}
            """);
        edge("2 KNOWN: at the first HOUR and at the last", """
            2 times name(1)
            law "way 99 a<9" = 0
            join(0, 1, 1) = 0
            trade(0, 0, 0, 0, 1) = 0
            trade(0, 1, 0, 99, 1) = 1
            news(0, 0) = NEVER
            of(0, 5) = {0 3}
            of(1, 5) = {0 3 5}
            news(0, 1) = 0
            of(0, 5) = {0}
            of(1, 5) = {0}
            """);
    }

    private static void handed() {
        edge("2 HANDED: .. if NEWS is HAD by it from no HOUR at all", """
            2 times name(1)
            law "way 1 a<9" = 0
            join(0, 1, 1) = 0
            news(0, 0) = NEVER
            trade(0, 1, 0, 50, 1) = 0
            of(0, 5) = {0 3 5}
            news(1, 99) = NEVER
            of(0, 5) = {0 3}
            news(1, 0) = 99
            of(0, 5) = {0 3}
            news(1, -1) = 0
            of(0, 5) = {0 3 5}
            """);
        edge("2 HANDED: as KNOWN", """
            2 times name(1)
            law "way 1 a<9" = 0
            join(0, 1, 1) = 0
            news(0, 10) = NEVER
            trade(0, 1, 0, 10, 1) = 0
            trade(0, 1, 1, 11, 1) = 1
            of(0, 5) = {0}
            of(1, 5) = {0 3 5}
            """);
    }

    private static void splitWatch() {
        edge("2 SPLIT: .. if its LOTS are below watch", """
            name(1) = 0
            news(0, 0) = NEVER
            trade(0, 0, 0, 0, 9) = 0
            trade(0, 0, 0, 0, 9) = 1
            law "watch 8" = 0
            of(0, 5) = {0 3}
            law "watch 9" = 1
            of(0, 5) = {0 3}
            law "watch 10" = 2
            of(0, 5) = {0 3 6}
            of(1, 5) = {0 3 6}
            law "watch 10;paper 999;watch 9;steps 9" = 3
            of(0, 5) = {0 3}
            law "watch 9;watch 10" = 4
            of(0, 5) = {0 3 6}
            """);
        edge("2 SPLIT: the fewest LOTS and the most; 1 watch likewise (999)", """
            name(1) = 0
            news(0, 0) = NEVER
            2 times trade(0, 0, 0, 0, 1)
            2 times trade(0, 0, 8, 0, 99)
            of(2, 5) = {0 3 6}
            law "watch 0" = 0
            of(0, 5) = {0 3}
            law "watch 1" = 1
            of(0, 5) = {0 3}
            law "watch 2" = 2
            of(0, 5) = {0 3 6}
            of(2, 5) = {0 3}
            law "watch 99" = 3
            of(2, 5) = {0 3}
            law "watch 100" = 4
            of(2, 5) = {0 3 6}
            law "paper 999" = 5
            of(2, 5) = {0 3 6}
            """);
    }

    private static void splitFellow() {
        edge("2 SPLIT: .. and another one of the same NAME and FRIDAY", """
            2 times name(1)
            news(0, 0) = NEVER
            news(1, 0) = NEVER
            trade(6, 0, 4, 0, 9) = 0
            of(0, 5) = {0 3}
            trade(6, 1, 4, 0, 9) = 1
            of(0, 5) = {0 3}
            trade(6, 0, 3, 0, 9) = 2
            trade(6, 0, 5, 0, 9) = 3
            of(0, 5) = {0 3}
            trade(0, 0, 4, 99, 1) = 4
            of(0, 5) = {0 3 6}
            of(4, 5) = {0 3 6}
            of(1, 5) = {0 3}
            of(2, 5) = {0 3}
            of(3, 5) = {0 3}
            """);
        edge("2 SPLIT: as KNOWN", """
            name(1) = 0
            news(0, 50) = NEVER
            trade(6, 0, 4, 50, 9) = 0
            trade(6, 0, 4, 49, 9) = 1
            of(0, 5) = {0 3 6}
            of(1, 5) = {0}
            news(0, -1) = 50
            of(0, 5) = {0}
            """);
        edge("2 SPLIT: the first and the last of sixteen", """
            2 times name(1)
            news(0, 0) = NEVER
            trade(6, 0, 0, 0, 9) = 0
            14 times trade(6, 1, 0, 0, 9)
            of(0, 5) = {0 3}
            trade(6, 0, 0, 0, 9) = 15
            of(0, 5) = {0 3 6}
            of(15, 5) = {0 3 6}
            """);
    }

    private static void sure() {
        edge("2 SURE: TRADES that of USUAL, HEARD, KNOWN KNOWN alone EXPLAINS", """
            2 times name(1)
            law "habit 1 f=1;habit 60 f=2;paper 50" = 0
            news(0, 0) = NEVER
            trade(0, 1, 0, 49, 1) = 0
            trade(0, 1, 1, 49, 1) = 1
            trade(0, 1, 0, 50, 1) = 2
            trade(0, 1, 1, 50, 1) = 3
            trade(0, 0, 0, 49, 1) = 4
            trade(0, 0, 1, 49, 1) = 5
            trade(0, 0, 0, 50, 1) = 6
            trade(0, 0, 1, 50, 1) = 7
            trade(0, 0, 2, 49, 1) = 8
            trade(0, 0, 0, 0, 1) = 9
            sure(0) = {4 9}
            """);
        edge("2 SURE: HANDED and SPLIT do not matter", """
            2 times name(1)
            law "way 1 a<9" = 0
            join(0, 1, 1) = 0
            news(0, 0) = NEVER
            trade(0, 1, 0, 1, 1) = 0
            trade(0, 1, 0, 0, 1) = 1
            trade(0, 1, 8, 99, 99) = 2
            of(0, 5) = {0 3 5 6}
            sure(0) = {0 2}
            """);
        edge("14 sure: bits of TRADES: none, all sixteen", """
            name(1) = 0
            sure(0) = 0
            sure(1) = 0
            16 times trade(6, 0, 0, 0, 1)
            sure(0) = 0
            sure(1) = 65535
            news(0, 0) = NEVER
            sure(0) = 65535
            sure(1) = 0
            """);
    }

    private static void wrong() {
        edge("2 WRONG: the TRADES whose own KIND EXPLAINS them not", """
            name(1) = 0
            trade(0, 0, 0, 50, 1) = 0
            trade(1, 0, 1, 50, 1) = 1
            trade(2, 0, 2, 50, 1) = 2
            trade(3, 0, 3, 50, 1) = 3
            trade(4, 0, 4, 50, 1) = 4
            trade(5, 0, 5, 50, 1) = 5
            trade(6, 0, 6, 50, 1) = 6
            sure(1) = {1 2 3 4 5 6}
            law "habit 49 a<9;paper 51" = 0
            sure(1) = {2 3 4 5 6}
            law "habit 50 a<9;paper 50" = 1
            sure(1) = {3 5 6}
            news(0, 50) = NEVER
            sure(1) = {5 6}
            trade(0, 0, 6, 0, 1) = 7
            sure(1) = {5}
            name(1) = 1
            join(0, 1, 1) = 0
            news(0, -1) = 50
            news(1, 0) = NEVER
            law "way 50 a<9" = 2
            sure(1) = {1 2 4}
            """);
    }

    private static void sureRefusals() {
        edge("14 sure: NONE", """
            sure(-1) = NONE
            sure(2) = NONE
            sure(MIN) = NONE
            sure(MAX) = NONE
            sure(0) = 0
            sure(1) = 0
            """);
    }

    private static void fridays() {
        edge("15 fridays: NONE", """
            fridays(0) = NONE
            3 times name(1)
            fridays(-1) = NONE
            fridays(3) = NONE
            fridays(MIN) = NONE
            fridays(MAX) = NONE
            fridays(2) = 0
            5 times name(1)
            fridays(7) = 0
            fridays(8) = NONE
            """);
        edge("2 FRIDAYS of a NAME: those on which it has a TRADE", """
            8 times name(1)
            fridays(0) = {}
            trade(0, 0, 0, 0, 1) = 0
            fridays(0) = {0}
            trade(0, 0, 8, 0, 1) = 1
            fridays(0) = {0 8}
            trade(0, 0, 8, 9, 9) = 2
            fridays(0) = {0 8}
            trade(0, 7, 1, 0, 1) = 3
            fridays(0) = {0 8}
            fridays(7) = {1}
            trade(0, 7, 0, 0, 1) = 4
            trade(0, 7, 2, 0, 1) = 5
            trade(0, 7, 3, 0, 1) = 6
            trade(0, 7, 4, 0, 1) = 7
            trade(0, 7, 5, 0, 1) = 8
            trade(0, 7, 6, 0, 1) = 9
            trade(0, 7, 7, 0, 1) = 10
            trade(0, 7, 8, 0, 1) = 11
            fridays(7) = 511
            """);
    }

    private static void againRefusals() {
        edge("16 again: NO: name", """
            again(0, 0, 0, 0) = NO
            3 times name(1)
            again(-1, 0, 0, 0) = NO
            again(3, 0, 0, 0) = NO
            again(MIN, 0, 1, 1) = NO
            again(MAX, 0, 1, 1) = NO
            again(2, 0, 0, 0) = 1
            5 times name(1)
            again(8, 0, 0, 0) = NO
            again(7, 0, 0, 0) = 1
            """);
        edge("16 again: NO: n; 2 the first n FRIDAYS (0 .. 9)", """
            name(1) = 0
            again(0, -1, 0, 0) = NO
            again(0, 10, 0, 0) = NO
            again(0, MIN, 0, 0) = NO
            again(0, MAX, 0, 0) = NO
            again(0, 0, 0, 0) = 1
            again(0, 9, 0, 0) = 1
            """);
        edge("16 again: NO: what, part", """
            name(1) = 0
            again(0, 0, -1, 0) = NO
            again(0, 0, 2, 0) = NO
            again(0, 0, MIN, 0) = NO
            again(0, 0, MAX, 0) = NO
            again(0, 0, 0, -1) = NO
            again(0, 0, 0, 2) = NO
            again(0, 0, 0, MIN) = NO
            again(0, 0, 0, MAX) = NO
            again(0, 0, 1, 0) = 1
            again(0, 0, 1, 1) = 1
            """);
    }

    private static void againFridays() {
        edge("2 AGAIN: on as many of the first n FRIDAYS as it is, or more", """
            name(1) = 0
            law "habit 50 a<9" = 0
            again(0, 9, 0, 0) = 1
            again(0, 9, 0, 1) = 1
            trade(0, 0, 8, 0, 1) = 0
            again(0, 8, 0, 0) = 1
            again(0, 8, 0, 1) = 1
            again(0, 9, 0, 0) = 511
            again(0, 9, 0, 1) = 512
            trade(0, 0, 0, 0, 1) = 1
            again(0, 0, 0, 0) = 1
            again(0, 0, 0, 1) = 1
            again(0, 1, 0, 0) = 1
            again(0, 1, 0, 1) = 2
            again(0, 2, 0, 0) = 3
            again(0, 2, 0, 1) = 4
            again(0, 9, 0, 0) = 251
            again(0, 9, 0, 1) = 256
            """);
        edge("2 AGAIN: two TRADES on one FRIDAY are one FRIDAY", """
            name(1) = 0
            law "habit 50 a<9" = 0
            2 times trade(0, 0, 1, 0, 1)
            again(0, 2, 0, 0) = 3
            again(0, 2, 0, 1) = 4
            """);
        edge("2 AGAIN: that a NAME is there: no other NAME's TRADES", """
            2 times name(1)
            law "habit 50 a<9" = 0
            trade(0, 1, 0, 0, 1) = 0
            again(0, 1, 0, 0) = 1
            again(0, 1, 0, 1) = 1
            again(1, 1, 0, 0) = 1
            again(1, 1, 0, 1) = 2
            """);
        edge("2 AGAIN: by HABIT alone, each FRIDAY by itself", """
            name(1) = 0
            law "habit 10 f=0;habit 20 f=1;habit 30 f=2" = 0
            trade(0, 0, 1, 0, 1) = 0
            again(0, 1, 0, 0) = 1
            again(0, 2, 0, 0) = 7
            again(0, 2, 0, 1) = 25
            again(0, 3, 0, 0) = 62
            again(0, 3, 0, 1) = 125
            trade(0, 0, 2, 0, 1) = 1
            again(0, 3, 0, 0) = 49
            again(0, 3, 0, 1) = 500
            trade(0, 0, 0, 0, 1) = 2
            again(0, 3, 0, 0) = 3
            again(0, 3, 0, 1) = 500
            """);
    }

    private static void againFractions() {
        edge("2 a fraction in lowest terms: none at all", """
            name(1) = 0
            trade(0, 0, 0, 0, 1) = 0
            again(0, 1, 0, 0) = 0
            again(0, 1, 0, 1) = 1
            again(0, 9, 0, 0) = 0
            again(0, 9, 0, 1) = 1
            again(0, 9, 1, 0) = 0
            again(0, 9, 1, 1) = 1
            """);
        edge("2 a fraction in lowest terms: one", """
            name(1) = 0
            law "habit 100 a<9" = 0
            trade(0, 0, 0, 0, 1) = 0
            again(0, 1, 0, 0) = 1
            again(0, 1, 0, 1) = 1
            again(0, 9, 0, 0) = 1
            again(0, 9, 0, 1) = 1
            """);
        edge("2 a fraction in lowest terms: 1 and 99 of 100", """
            2 times name(1)
            law "habit 1 a=0;habit 98 a=1" = 0
            trade(0, 0, 0, 0, 1) = 0
            trade(0, 1, 0, 0, 1) = 1
            again(0, 1, 0, 0) = 1
            again(0, 1, 0, 1) = 100
            again(1, 1, 0, 0) = 49
            again(1, 1, 0, 1) = 50
            """);
        edge("2 a fraction in lowest terms: nine FRIDAYS, the least and the most", """
            8 times name(1)
            law "habit 1 a=0;habit 99 a=1" = 0
            trade(0, 0, 0, 0, 1)
            trade(0, 0, 1, 0, 1)
            trade(0, 0, 2, 0, 1)
            trade(0, 0, 3, 0, 1)
            trade(0, 0, 4, 0, 1)
            trade(0, 0, 5, 0, 1)
            trade(0, 0, 6, 0, 1)
            trade(0, 0, 7, 0, 1)
            trade(0, 0, 8, 0, 1)
            trade(0, 1, 8, 0, 1)
            again(0, 9, 0, 0) = 1
            again(0, 9, 0, 1) = 1000000000000000000
            again(0, 9, 1, 0) = 1
            again(0, 9, 1, 1) = 125000000000000000
            again(1, 9, 0, 0) = 999999999999999999
            again(1, 9, 0, 1) = 1000000000000000000
            again(1, 9, 1, 0) = 1
            again(1, 9, 1, 1) = 1
            """);
    }

    private static void looked() {
        edge("2 LOOKED: that, times how many NAMES there are, 1 at most", """
            name(1) = 0
            law "habit 25 a=0;habit 49 a=1;habit 50 a=2;habit 51 a=3" = 0
            trade(0, 0, 0, 0, 1) = 0
            again(0, 1, 1, 0) = 1
            again(0, 1, 1, 1) = 4
            name(1) = 1
            trade(0, 1, 0, 0, 1) = 1
            again(0, 1, 1, 0) = 1
            again(0, 1, 1, 1) = 2
            again(1, 1, 1, 0) = 49
            again(1, 1, 1, 1) = 50
            name(1) = 2
            again(0, 1, 1, 0) = 3
            again(0, 1, 1, 1) = 4
            again(1, 1, 1, 0) = 1
            again(1, 1, 1, 1) = 1
            name(1) = 3
            again(0, 1, 1, 0) = 1
            again(0, 1, 1, 1) = 1
            name(1) = 4
            again(0, 1, 1, 0) = 1
            again(0, 1, 1, 1) = 1
            again(0, 1, 0, 0) = 1
            again(0, 1, 0, 1) = 4
            """);
        edge("2 LOOKED: just 1, just above it", """
            2 times name(1)
            law "habit 50 a=0;habit 51 a=1" = 0
            trade(0, 0, 0, 0, 1) = 0
            trade(0, 1, 0, 0, 1) = 1
            again(0, 1, 1, 0) = 1
            again(0, 1, 1, 1) = 1
            again(1, 1, 1, 0) = 1
            again(1, 1, 1, 1) = 1
            """);
    }

    private static void oddest() {
        edge("17 oddest: NONE: no NAMES, ahead of BAD", """
            oddest(0) = NONE
            oddest(9) = NONE
            oddest(10) = NONE
            oddest(-1) = NONE
            """);
        edge("17 oddest: BAD: n", """
            name(1) = 0
            oddest(-1) = BAD
            oddest(10) = BAD
            oddest(MIN) = BAD
            oddest(MAX) = BAD
            oddest(0) = 0
            oddest(9) = 0
            """);
        edge("2 ODDEST: (of several the least)", """
            8 times name(1)
            law "habit 50 a<9" = 0
            oddest(9) = 0
            trade(0, 7, 8, 0, 1) = 0
            oddest(9) = 7
            oddest(8) = 0
            trade(0, 5, 8, 0, 1) = 1
            oddest(9) = 5
            trade(0, 0, 0, 0, 1) = 2
            oddest(9) = 0
            oddest(0) = 0
            """);
        edge("2 ODDEST: fractions are compared, not what stands above their lines", """
            3 times name(1)
            law "habit 50 a=0;habit 30 a=1;habit 33 a=2" = 0
            trade(0, 0, 0, 0, 1) = 0
            trade(0, 1, 0, 0, 1) = 1
            trade(0, 2, 0, 0, 1) = 2
            oddest(1) = 1
            """);
        edge("2 ODDEST: none is odder than one that is there without habit", """
            3 times name(1)
            law "habit 1 a=0" = 0
            trade(0, 0, 0, 0, 1) = 0
            oddest(1) = 0
            trade(0, 2, 0, 0, 1) = 1
            oddest(1) = 2
            """);
    }

    private static void ringRefusals() {
        edge("18 ring: NONE", """
            ring(-1) = NONE
            ring(2) = NONE
            ring(MIN) = NONE
            ring(MAX) = NONE
            ring(0) = 0
            ring(1) = 0
            """);
    }

    private static void alike() {
        edge("2 ALIKE: pairs of NAMES with the same FRIDAYS, some", """
            4 times name(1)
            ring(0) = 0
            trade(0, 0, 0, 0, 1) = 0
            ring(0) = 0
            trade(0, 1, 0, 0, 1) = 1
            ring(0) = 1
            trade(0, 2, 0, 0, 1) = 2
            ring(0) = 3
            trade(0, 3, 0, 0, 1) = 3
            ring(0) = 6
            trade(0, 3, 8, 0, 1) = 4
            ring(0) = 3
            trade(0, 2, 8, 0, 1) = 5
            ring(0) = 2
            """);
        edge("2 ALIKE: all of eight", """
            8 times name(1)
            trade(0, 0, 8, 0, 1)
            trade(0, 1, 8, 0, 1)
            trade(0, 2, 8, 0, 1)
            trade(0, 3, 8, 0, 1)
            trade(0, 4, 8, 0, 1)
            trade(0, 5, 8, 0, 1)
            trade(0, 6, 8, 0, 1)
            ring(0) = 21
            ring(1) = 127
            trade(0, 7, 8, 0, 1)
            ring(0) = 28
            ring(1) = 255
            """);
    }

    private static void ring() {
        edge("2 RING: two NAMES or more, some FRIDAYS (0: none)", """
            3 times name(1)
            ring(1) = 0
            trade(0, 0, 0, 0, 1) = 0
            ring(1) = 0
            trade(0, 1, 1, 0, 1) = 1
            ring(1) = 0
            trade(0, 2, 1, 0, 1) = 2
            ring(1) = {1 2}
            """);
        edge("2 RING: (of several the least as bits)", """
            8 times name(1)
            trade(0, 0, 0, 0, 1)
            trade(0, 3, 0, 0, 1)
            ring(1) = {0 3}
            trade(0, 1, 1, 0, 1)
            trade(0, 2, 1, 0, 1)
            ring(1) = {1 2}
            trade(0, 6, 2, 0, 1)
            trade(0, 7, 2, 0, 1)
            ring(1) = {1 2}
            """);
        edge("2 RING: the greatest set", """
            8 times name(1)
            trade(0, 0, 0, 0, 1)
            trade(0, 1, 0, 0, 1)
            trade(0, 5, 1, 0, 1)
            trade(0, 6, 1, 0, 1)
            ring(1) = {0 1}
            trade(0, 7, 1, 0, 1)
            ring(1) = {5 6 7}
            """);
    }
}
