/** Promises 12 to 18: trade, of, sure, fridays, again, oddest, ring. */
public final class TradesTest {
    private static final Due due = new Due("TradesTest");

    public static void main(String[] args) {
        trades();
        explaining();
        edgesOfKinds();
        sureAndWrong();
        fridays();
        again();
        oddest();
        ring();
        due.end();
    }

    private static void trades() {
        TuesdayKnew x = Due.names(1, 2);
        due.is("trade(-1, 0, 0, 0, 1)", x.trade(-1, 0, 0, 0, 1), -1);
        due.is("trade(7, 0, 0, 0, 1)", x.trade(7, 0, 0, 0, 1), -1);
        due.is("trade(0, 2, 0, 0, 1)", x.trade(0, 2, 0, 0, 1), -1);
        due.is("trade(0, -1, 0, 0, 1)", x.trade(0, -1, 0, 0, 1), -1);
        due.is("trade(0, 0, 9, 100, 1)", x.trade(0, 0, 9, 100, 1), -1);
        due.is("trade(0, 0, -1, 0, 1)", x.trade(0, 0, -1, 0, 1), -1);
        due.is("trade(0, 0, 0, -1, 1)", x.trade(0, 0, 0, -1, 1), -2);
        due.is("trade(0, 0, 0, 100, 1)", x.trade(0, 0, 0, 100, 1), -2);
        due.is("trade(0, 0, 0, 0, 0)", x.trade(0, 0, 0, 0, 0), -2);
        due.is("trade(0, 0, 0, 0, 100)", x.trade(0, 0, 0, 0, 100), -2);
        due.is("count(1) after refusals", x.count(1), 0);
        for (int i = 0; i < 16; i++) {
            due.is("trade " + i, x.trade(i % 7, i % 2, i % 9, 99 - i, 99 - 2 * i), i);
        }
        due.is("a seventeenth", x.trade(0, 0, 0, 0, 1), -4);
        due.is("a seventeenth of no name", x.trade(0, 2, 0, 0, 1), -1);
        due.is("a seventeenth at no hour", x.trade(0, 0, 0, 100, 1), -2);
        due.is("count(1)", x.count(1), 16);
        for (int i = 0; i < 16; i++) {
            due.is("of(" + i + ", 0)", x.of(i, 0), i % 7);
            due.is("of(" + i + ", 1)", x.of(i, 1), i % 2);
            due.is("of(" + i + ", 2)", x.of(i, 2), i % 9);
            due.is("of(" + i + ", 3)", x.of(i, 3), 99 - i);
            due.is("of(" + i + ", 4)", x.of(i, 4), 99 - 2 * i);
        }
        due.is("of(0, 6)", x.of(0, 6), -1);
        due.is("of(0, -1)", x.of(0, -1), -1);
        due.is("of(16, 0)", x.of(16, 0), -1);
        due.is("of(-1, 0)", x.of(-1, 0), -1);
    }

    private static void explaining() {
        TuesdayKnew x = Due.names(1, 2, 3);
        x.trade(0, 0, 0, 50, 10);
        x.trade(0, 1, 1, 50, 10);
        due.is("of(0, 5) without a law", x.of(0, 5), 1);
        Due.law(x, "habit 1 f=0;habit 50 f=1;paper 51");
        due.is("of(0, 5), some habit", x.of(0, 5), 1 | 2);
        due.is("of(1, 5), half a habit", x.of(1, 5), 1 | 2 | 16);
        Due.law(x, "habit 49 f=1;paper 50;way 10 a<9");
        due.is("of(0, 5), in the paper", x.of(0, 5), 1 | 4);
        due.is("of(1, 5), less than half", x.of(1, 5), 1 | 2 | 4);
        x.join(0, 1, 1);
        x.news(0, 40);
        due.is("of(0, 5), it had it", x.of(0, 5), 1 | 4 | 8);
        due.is("of(1, 5), it was told", x.of(1, 5), 1 | 2 | 4 | 8 | 32);
        x.news(0, 41);
        due.is("of(1, 5), told an hour later", x.of(1, 5), 1 | 2 | 4);
        x.news(1, 99);
        x.news(0, 40);
        due.is("of(1, 5), told, and had it later", x.of(1, 5), 1 | 2 | 4 | 8);
    }

    private static void edgesOfKinds() {
        TuesdayKnew x = Due.names(1, 2);
        x.news(0, 0);
        x.trade(6, 0, 3, 0, 10);
        due.is("of(0, 5), alone", x.of(0, 5), 1 | 8);
        x.trade(6, 1, 3, 0, 10);
        due.is("of(0, 5), another name", x.of(0, 5), 1 | 8);
        x.trade(6, 0, 4, 0, 10);
        due.is("of(0, 5), another friday", x.of(0, 5), 1 | 8);
        x.trade(6, 0, 3, 99, 99);
        due.is("of(0, 5), split", x.of(0, 5), 1 | 8 | 64);
        due.is("of(3, 5), split", x.of(3, 5), 1 | 8 | 64);
        due.is("of(2, 5), not split", x.of(2, 5), 1 | 8);
        Due.law(x, "watch 10");
        due.is("of(0, 5), as many as the watch", x.of(0, 5), 1 | 8);
        Due.law(x, "watch 5;watch 11");
        due.is("of(0, 5), below the last watch", x.of(0, 5), 1 | 8 | 64);
        due.is("of(3, 5), above it", x.of(3, 5), 1 | 8);
        Due.law(x, "paper 0;paper 99");
        due.is("of(0, 5), before the last paper", x.of(0, 5), 1 | 8 | 64);
        due.is("of(3, 5), at the paper", x.of(3, 5), 1 | 4 | 8 | 64);
        x.news(0, 1);
        due.is("of(0, 5), ahead of the news", x.of(0, 5), 1);
    }

    private static void sureAndWrong() {
        TuesdayKnew x = Due.names(1, 2, 3, 4);
        due.is("sure(0) of none", x.sure(0), 0);
        due.is("sure(1) of none", x.sure(1), 0);
        due.is("sure(2)", x.sure(2), -1);
        due.is("sure(-1)", x.sure(-1), -1);
        Due.law(x, "habit 10 a=1;habit 60 a=2;paper 60");
        x.news(0, 10);
        x.news(1, 10);
        x.news(2, 10);
        x.trade(3, 0, 0, 20, 5);
        x.trade(4, 1, 0, 20, 5);
        x.trade(4, 2, 0, 20, 5);
        x.trade(2, 0, 1, 60, 5);
        x.trade(2, 0, 2, 59, 5);
        x.trade(0, 3, 2, 0, 5);
        x.trade(5, 0, 2, 60, 5);
        x.trade(6, 3, 2, 20, 5);
        x.trade(1, 3, 2, 20, 5);
        // KNOWN alone: 0 and 4; those with a habit, or in the paper, or without the news: not.
        due.is("sure(0)", x.sure(0), 1 | 16);
        due.is("sure(1)", x.sure(1), 2 | 16 | 64 | 128 | 256);
        x.news(0, -1);
        due.is("sure(0) without its news", x.sure(0), 0);
    }

    private static void fridays() {
        TuesdayKnew x = Due.names(1, 2);
        due.is("fridays(2)", x.fridays(2), -1);
        due.is("fridays(-1)", x.fridays(-1), -1);
        due.is("fridays(0) of none", x.fridays(0), 0);
        x.trade(0, 0, 8, 0, 1);
        x.trade(0, 0, 0, 0, 1);
        x.trade(0, 0, 8, 0, 1);
        x.trade(0, 1, 5, 0, 1);
        due.is("fridays(0)", x.fridays(0), 257);
        due.is("fridays(1)", x.fridays(1), 32);
    }

    private static void odds(TuesdayKnew x, int name, int n, int what, long above, long below) {
        String call = "again(" + name + ", " + n + ", " + what + ", ";
        due.is(call + "0)", x.again(name, n, what, 0), above);
        due.is(call + "1)", x.again(name, n, what, 1), below);
    }

    private static void again() {
        TuesdayKnew x = Due.names(1, 2, 3);
        due.is("again of no name", x.again(3, 0, 0, 0), TuesdayKnew.NO);
        due.is("again(-1, ..)", x.again(-1, 0, 0, 0), TuesdayKnew.NO);
        due.is("again(0, 10, 0, 0)", x.again(0, 10, 0, 0), TuesdayKnew.NO);
        due.is("again(0, -1, 0, 0)", x.again(0, -1, 0, 0), TuesdayKnew.NO);
        due.is("again(0, 0, 2, 0)", x.again(0, 0, 2, 0), TuesdayKnew.NO);
        due.is("again(0, 0, -1, 0)", x.again(0, 0, -1, 0), TuesdayKnew.NO);
        due.is("again(0, 0, 0, 2)", x.again(0, 0, 0, 2), TuesdayKnew.NO);
        due.is("again(0, 0, 0, -1)", x.again(0, 0, 0, -1), TuesdayKnew.NO);
        odds(x, 0, 9, 0, 1, 1);
        x.trade(0, 0, 0, 0, 1);
        odds(x, 0, 0, 0, 1, 1);
        odds(x, 0, 9, 0, 0, 1);
        odds(x, 0, 9, 1, 0, 1);
        Due.law(x, "habit 40 f=0;habit 25 f=1;habit 1 f>1&a=1");
        odds(x, 0, 1, 0, 2, 5);
        // On the first two: 1 - 60/100 * 75/100.
        odds(x, 0, 2, 0, 11, 20);
        odds(x, 0, 2, 1, 1, 1);
        odds(x, 0, 1, 1, 1, 1);
        x.trade(0, 0, 1, 0, 1);
        odds(x, 0, 2, 0, 1, 10);
        odds(x, 0, 2, 1, 3, 10);
        x.trade(0, 0, 8, 0, 1);
        odds(x, 0, 8, 0, 1, 10);
        odds(x, 0, 9, 0, 0, 1);
        // On all nine: 40/100 * 25/100 * (1/100) to the 7.
        for (int friday = 0; friday < 9; friday++) {
            x.trade(0, 1, friday, 0, 1);
        }
        odds(x, 1, 9, 0, 1, 1000000000000000L);
        odds(x, 1, 9, 1, 3, 1000000000000000L);
        Due.law(x, "habit 33 a<9");
        odds(x, 1, 9, 0, 46411484401953L, 1000000000000000000L);
        odds(x, 1, 9, 1, 139234453205859L, 1000000000000000000L);
        Due.law(x, "habit 100 a<9");
        odds(x, 1, 9, 0, 1, 1);
        odds(x, 1, 9, 1, 1, 1);
    }

    private static void oddest() {
        TuesdayKnew x = new TuesdayKnew();
        due.is("oddest(0) of none", x.oddest(0), -1);
        due.is("oddest(10) of none", x.oddest(10), -1);
        x.name(1);
        x.name(2);
        x.name(3);
        due.is("oddest(10)", x.oddest(10), -2);
        due.is("oddest(-1)", x.oddest(-1), -2);
        due.is("oddest(9), all alike", x.oddest(9), 0);
        Due.law(x, "habit 20 a=0;habit 10 a=1;habit 90 a=2");
        x.trade(0, 0, 1, 0, 1);
        x.trade(0, 2, 1, 0, 1);
        due.is("oddest(1)", x.oddest(1), 0);
        due.is("oddest(2)", x.oddest(2), 0);
        x.trade(0, 1, 1, 0, 1);
        due.is("oddest(2), a rarer one", x.oddest(2), 1);
        due.is("oddest(1) still", x.oddest(1), 0);
        Due.law(x, "habit 10 a>0;habit 20 a=0");
        due.is("oddest(2), two as odd", x.oddest(2), 1);
    }

    private static void ring() {
        TuesdayKnew x = Due.names(1, 1, 1, 1, 1, 1, 1);
        due.is("ring(2)", x.ring(2), -1);
        due.is("ring(-1)", x.ring(-1), -1);
        due.is("ring(0), no fridays", x.ring(0), 0);
        due.is("ring(1), no fridays", x.ring(1), 0);
        x.trade(0, 0, 1, 0, 1);
        due.is("ring(1), one alone", x.ring(1), 0);
        x.trade(0, 5, 1, 0, 1);
        due.is("ring(0), one pair", x.ring(0), 1);
        due.is("ring(1), one pair", x.ring(1), 1 | 32);
        x.trade(0, 1, 2, 0, 1);
        x.trade(0, 2, 2, 0, 1);
        due.is("ring(0), two pairs", x.ring(0), 2);
        due.is("ring(1), the least as bits", x.ring(1), 2 | 4);
        x.trade(0, 6, 1, 0, 1);
        due.is("ring(0), three and two", x.ring(0), 4);
        due.is("ring(1), the greatest", x.ring(1), 1 | 32 | 64);
        x.trade(0, 6, 3, 0, 1);
        x.trade(0, 5, 1, 7, 2);
        due.is("ring(1), one friday more", x.ring(1), 2 | 4);
        due.is("ring(0)", x.ring(0), 2);
    }
}
