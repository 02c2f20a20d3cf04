/** Promises 25 to 35: judge, image, undo, act, trace, taken, count, tape, item, read, shift. */
public final class JudgingTapesTest {
    private static final Due due = new Due("JudgingTapesTest");

    public static void main(String[] args) {
        judge();
        judgeRefusals();
        image();
        acts();
        noActs();
        taken();
        counts();
        tapes();
        items();
        shift();
        due.end();
    }

    private static void row(TuesdayKnew x, int tape, int... items) {
        x.tape(tape, 0, items.length);
        for (int i = 0; i < items.length; i++) {
            x.item(tape, i, items[i]);
        }
    }

    private static void judge() {
        TuesdayKnew x = Due.names(1, 2, 3, 4, 5);
        Due.law(x, "way 10 s=1;way 500 s=2;way 7 s=3&a=3;steps 3");
        x.join(0, 1, 1);
        x.join(1, 2, 1);
        x.join(2, 3, 2);
        x.join(3, 4, 3);
        x.join(0, 2, 4);
        x.news(0, 5);
        x.news(4, 0);
        row(x, 3, 0, 1, 2, 3, 4, 3);
        due.is("judge to the first", x.judge(3, 0, 0), 5);
        due.is("judge to the second", x.judge(3, 0, 1), 15);
        due.is("judge to the third", x.judge(3, 0, 2), 25);
        due.is("judge to the fourth", x.judge(3, 0, 3), 525);
        due.is("judge beyond steps", x.judge(3, 0, 4), -14);
        due.is("judge from one that never had it", x.judge(3, 1, 2), -5);
        due.is("judge to itself, never had it", x.judge(3, 1, 1), -5);
        due.is("judge against the way", x.judge(3, 4, 3), -11);
        due.is("judge, the row ends", x.judge(3, 4, 0), -11);
        row(x, 3, 0, 1);
        due.is("judge, two looked at", x.judge(3, 0, 4), 1002);
        due.is("judge from the end", x.judge(3, 2, 4), 1000);
        due.is("judge from behind the end", x.judge(3, 3, 4), 1000);
        due.is("judge from far behind", x.judge(3, Integer.MAX_VALUE, 4), 1000);
        due.is("judge from far below", x.judge(3, Integer.MIN_VALUE, 4), 1000);
        row(x, 3, 0, 2);
        due.is("judge, joined but it goes not", x.judge(3, 0, 2), -11);
        row(x, 3, 0, 3);
        due.is("judge, not joined", x.judge(3, 0, 3), -11);
        row(x, 3, 0, 0);
        due.is("judge, to itself again", x.judge(3, 0, 1), -11);
        row(x, 3, 0, 1, 0, 1, 2);
        due.is("judge to and fro", x.judge(3, 0, 2), -14);
        due.is("judge, the first of it", x.judge(3, 0, 1), 15);
        Due.law(x, "way 1 s<9;steps 99");
        row(x, 3, 0, 1, 0, 1, 0, 1, 0, 1, 0, 1, 0, 1);
        due.is("judge, more than nine steps", x.judge(3, 0, 4), -20);
        due.is("judge, just nine", x.judge(3, 2, 4), 1010);
        Due.law(x, "way 10 s=1");
        row(x, 3, 9, 0, 1, 5, -1);
        due.is("judge, the first not there", x.judge(3, 0, 1), -10);
        due.is("judge from place 1", x.judge(3, 1, 1), 15);
        due.is("judge, a step not there", x.judge(3, 1, 4), -12);
        due.is("judge from a name below 0", x.judge(3, 4, 4), -10);
    }

    private static void judgeRefusals() {
        TuesdayKnew x = Due.names(1);
        due.is("judge(-1, 0, 0)", x.judge(-1, 0, 0), -1);
        due.is("judge(6, 0, 0)", x.judge(6, 0, 0), -1);
        due.is("judge(0, 0, 1)", x.judge(0, 0, 1), -1);
        due.is("judge of nothing", x.judge(0, 0, 0), 1000);
        for (int sort = 1; sort < 5; sort++) {
            x.tape(0, sort, 0);
            due.is("judge of sort " + sort, x.judge(0, -1, 0), -12);
            due.is("judge of sort " + sort + " to nobody", x.judge(0, 0, 1), -1);
        }
        x.tape(0, 0, 0);
        due.is("judge of no items", x.judge(0, 0, 0), 1000);
        due.is("judge below 0", x.judge(0, -1, 0), 1000);
    }

    private static void image() {
        TuesdayKnew x = Due.names(1, 2);
        due.is("undo() without an image", x.undo(), -3);
        x.join(0, 1, 1);
        x.news(0, 3);
        Due.law(x, "way 1 s=1");
        x.trade(3, 0, 4, 5, 6);
        x.blank(2);
        due.is("image()", x.image(), 1);
        x.name(3);
        x.join(0, 1, 2);
        x.join(0, 2, 2);
        x.news(0, 9);
        x.news(2, 9);
        Due.law(x, "way 5 s=2");
        x.trade(0, 1, 8, 9, 10);
        x.blank(1);
        x.blank(1);
        Due.feed(x, "way");
        x.tape(0, 2, 3);
        x.item(0, 1, 77);
        x.act(0, 0, 1);
        due.is("goes by the second law", x.goes(0, 1), 5);
        due.is("undo()", x.undo(), 1);
        due.is("goes by the first law", x.goes(0, 1), 1);
        due.is("knows(0) as then", x.knows(0), 3);
        due.is("names stay", x.count(0), 3);
        due.is("trades as then", x.count(1), 1);
        due.is("laws stay", x.count(2), 2);
        due.is("blanks as then", x.count(3), 1);
        due.is("fills(0) as then", x.fills(0), 2);
        due.is("the text stays", x.count(4), 3);
        due.is("the trace stays", x.trace(0), 10);
        due.is("tapes stay", x.read(0, 1), 77);
        due.is("a name that came later, joined to none", x.join(0, 2, 5), 0);
        due.is("a name that came later, without news", x.news(2, 1), -5);
        due.is("what it was joined by", x.join(0, 1, 3), 1);
        due.is("undo() again", x.undo(), 1);
        due.is("joined as then", x.join(0, 1, 1), 1);
        due.is("the next law", Due.law(x, "paper 1"), -13);
        due.is("the next law", Due.law(x, "paper 1"), 2);
        due.is("goes by it", x.goes(0, 1), -5);
        x.trade(1, 1, 1, 1, 1);
        due.is("a new image()", x.image(), 2);
        x.trade(1, 1, 1, 1, 1);
        due.is("undo() to the new one", x.undo(), 2);
        due.is("its law holds", x.goes(0, 1), -5);
        due.is("of(0, 3)", x.of(0, 3), 5);
    }

    private static void traced(TuesdayKnew x, String act, int... bodies) {
        due.is("count(5) of " + act, x.count(5), bodies.length);
        for (int i = 0; i < bodies.length; i++) {
            due.is("trace(" + i + ") of " + act, x.trace(i), bodies[i]);
        }
        due.is("trace behind the end of " + act, x.trace(bodies.length), -1);
        due.is("trace(-1) of " + act, x.trace(-1), -1);
    }

    /** Trade i is of kind i and has 10 + i lots. */
    private static void acts() {
        TuesdayKnew x = Due.names(1);
        for (int i = 0; i < 7; i++) {
            x.trade(i, 0, 0, 0, 10 + i);
        }
        due.is("TRADE buys", x.act(0, 0, 5), 5);
        traced(x, "TRADE buys", 10);
        due.is("TRADE knows", x.act(0, 1, 5), -5);
        traced(x, "TRADE knows", 11, 10);
        due.is("TRADE tells", x.act(0, 2, 5), -10);
        traced(x, "TRADE tells", 12, 11, 10);
        due.is("USUAL buys", x.act(1, 0, 5), 6);
        traced(x, "USUAL buys", 10);
        due.is("USUAL knows", x.act(1, 1, 5), (6 - 11) ^ 6);
        traced(x, "USUAL knows", 20, 11, 10);
        due.is("USUAL tells", x.act(1, 2, 5), ((6 - 11) ^ 6) * 2);
        traced(x, "USUAL tells", 12, 20, 11, 10);
        due.is("HEARD buys", x.act(2, 0, 5), 17);
        traced(x, "HEARD buys", 30, 10);
        due.is("HEARD knows", x.act(2, 1, 5), 5);
        traced(x, "HEARD knows", 11, 30, 10);
        due.is("HEARD tells", x.act(2, 2, 5), 10);
        traced(x, "HEARD tells", 12, 11, 30, 10);
        due.is("KNOWN buys", x.act(3, 0, 5), 8);
        due.is("KNOWN knows", x.act(3, 1, 5), -5);
        due.is("KNOWN tells", x.act(3, 2, 5), -10 + (4 - 13));
        traced(x, "KNOWN tells", 40, 12, 11, 10, 11, 10);
        due.is("LUCKY buys", x.act(4, 0, 5), -9);
        traced(x, "LUCKY buys", 50, 10);
        due.is("LUCKY knows", x.act(4, 1, 5), (-10 - 14) ^ 6);
        traced(x, "LUCKY knows", 51, 20, 11, 50, 10);
        due.is("LUCKY tells", x.act(4, 2, 5), ((-10 - 14) ^ 6) * 2);
        traced(x, "LUCKY tells", 12, 51, 20, 11, 50, 10);
        due.is("HANDED knows", x.act(5, 1, 5), -5);
        due.is("HANDED tells", x.act(5, 2, 5), (5 - 15) * 2 + (6 - 15));
        traced(x, "HANDED tells", 60, 40, 12, 11, 10, 11, 10);
        due.is("SPLIT buys", x.act(6, 0, 5), 11 ^ 16);
        traced(x, "SPLIT buys", 71, 10);
        int knows5 = (11 ^ 16) - 16 + 8;
        int knows1 = (7 ^ 16) - 16 + 8;
        due.is("SPLIT knows", x.act(6, 1, 5), knows5);
        traced(x, "SPLIT knows", 70, 11, 71, 10, 10);
        due.is("SPLIT tells", x.act(6, 2, 5), knows5 * 2 + knows1);
        traced(x, "SPLIT tells", 40, 12, 70, 11, 71, 10, 10, 70, 11, 71, 10, 10);
        due.is("buys, wrapping", x.act(1, 0, Integer.MAX_VALUE), Integer.MIN_VALUE);
        due.is("HEARD buys, wrapping", x.act(2, 0, 1 << 30), (3 << 30) + 2);
        due.is("tells, wrapping", x.act(0, 2, 1 << 30), (int) ((1L << 31) - 20));
    }

    private static void noActs() {
        TuesdayKnew x = Due.names(1);
        x.trade(0, 0, 0, 0, 1);
        x.act(0, 2, 3);
        due.is("act of no trade", x.act(1, 0, 3), 0);
        due.is("trace(0) then", x.trace(0), -1);
        due.is("count(5) then", x.count(5), 0);
        x.act(0, 2, 3);
        due.is("act(0, 3, 3)", x.act(0, 3, 3), 0);
        due.is("trace(0) then", x.trace(0), -1);
        x.act(0, 2, 3);
        due.is("act(0, -1, 3)", x.act(0, -1, 3), 0);
        due.is("act(-1, 0, 3)", x.act(-1, 0, 3), 0);
        due.is("count(5) then", x.count(5), 0);
        due.is("trace(20)", x.trace(20), -1);
    }

    private static void taken() {
        TuesdayKnew x = Due.names(1);
        int[][] above = {{0}, {1, 0}, {2, 0}, {3, 0}, {4, 1, 0}, {5, 3, 0}, {6, 3, 0}};
        for (int i = 0; i < 7; i++) {
            x.trade(i, 0, 0, 0, 1);
        }
        for (int i = 0; i < 7; i++) {
            for (int k = 0; k < 7; k++) {
                boolean so = false;
                for (int kind : above[i]) {
                    so |= kind == k;
                }
                due.is("taken(" + i + ", " + k + ")", x.taken(i, k), so ? i : -12);
            }
        }
        due.is("taken(0, -1)", x.taken(0, -1), -2);
        due.is("taken(0, 7)", x.taken(0, 7), -2);
        due.is("taken(7, 7)", x.taken(7, 7), -2);
        due.is("taken(7, 0)", x.taken(7, 0), -11);
        due.is("taken(-1, 0)", x.taken(-1, 0), -11);
    }

    private static void counts() {
        TuesdayKnew x = Due.names(1, 2, 3);
        x.trade(3, 0, 0, 0, 1);
        x.trade(3, 0, 0, 0, 1);
        Due.law(x, "paper 1");
        x.blank(1);
        x.blank(1);
        x.blank(1);
        x.blank(1);
        x.feed(0, 4);
        x.feed(0, 1);
        x.act(0, 2, 0);
        int[] want = {3, 2, 1, 4, 5, 6};
        for (int what = 0; what < 6; what++) {
            due.is("count(" + what + ")", x.count(what), want[what]);
        }
        due.is("count(6)", x.count(6), -2);
        due.is("count(-1)", x.count(-1), -2);
    }

    private static void tapes() {
        TuesdayKnew x = new TuesdayKnew();
        due.is("tape(-1, 0, 0)", x.tape(-1, 0, 0), -1);
        due.is("tape(6, 9, 0)", x.tape(6, 9, 0), -1);
        due.is("tape(0, 5, -1)", x.tape(0, 5, -1), -2);
        due.is("tape(0, -2, 0)", x.tape(0, -2, 0), -2);
        due.is("tape(0, 0, 61)", x.tape(0, 0, 61), -2);
        due.is("tape(0, 0, -1)", x.tape(0, 0, -1), -14);
        due.is("tape(0, 0, MIN)", x.tape(0, 0, Integer.MIN_VALUE), -14);
        due.is("tape(0, -1, 61)", x.tape(0, -1, 61), 1);
        due.is("tape(0, -1, -1)", x.tape(0, -1, -1), 1);
        due.is("item of nothing", x.item(0, 0, 1), -11);
        due.is("tape(5, 3, 60)", x.tape(5, 3, 60), 1);
        due.is("item(5, 59, MIN)", x.item(5, 59, Long.MIN_VALUE + 1), 1);
        due.is("read(5, 59)", x.read(5, 59), Long.MIN_VALUE + 1);
        due.is("read(5, 60)", x.read(5, 60), TuesdayKnew.NO);
        due.is("a refused tape changes nothing", x.tape(5, 3, 61), -2);
        due.is("nor a size below 0", x.tape(5, 3, -1), -14);
        due.is("read(5, 59) still", x.read(5, 59), Long.MIN_VALUE + 1);
        due.is("tape(5, 3, 60) anew", x.tape(5, 3, 60), 1);
        due.is("read(5, 59), all 0", x.read(5, 59), 0);
        due.is("tape(5, 0, 0)", x.tape(5, 0, 0), 1);
        due.is("read(5, 0) of no items", x.read(5, 0), TuesdayKnew.NO);
        due.is("item(5, 0, 0) of no items", x.item(5, 0, 0), -13);
        due.is("tape(5, -1, 0)", x.tape(5, -1, 0), 1);
        due.is("read(5, 0) of nothing", x.read(5, 0), TuesdayKnew.NO);
    }

    private static void cut(int sort, long v, long want) {
        TuesdayKnew x = new TuesdayKnew();
        x.tape(2, sort, 3);
        due.is("item of sort " + sort, x.item(2, 1, v), 1);
        due.is(v + " in sort " + sort, x.read(2, 1), want);
        due.is("the item ahead", x.read(2, 0), 0);
        due.is("the item behind", x.read(2, 2), 0);
    }

    private static void items() {
        cut(0, 127, 127);
        cut(0, 128, -128);
        cut(0, 256, 0);
        cut(0, -1, -1);
        cut(1, 32767, 32767);
        cut(1, 32768, -32768);
        cut(1, 65536 + 5, 5);
        cut(2, 2147483647L, 2147483647L);
        cut(2, 2147483648L, -2147483648L);
        cut(2, -4294967296L + 9, 9);
        cut(3, Long.MAX_VALUE, Long.MAX_VALUE);
        cut(4, 0, 0);
        cut(4, 1, 1);
        cut(4, -2, 1);
        cut(4, 4294967296L, 1);
        TuesdayKnew x = new TuesdayKnew();
        due.is("item(-1, 0, 0)", x.item(-1, 0, 0), -1);
        due.is("item(6, 0, 0)", x.item(6, 0, 0), -1);
        due.is("item(0, -1, 0) of nothing", x.item(0, -1, 0), -11);
        x.tape(0, 2, 2);
        due.is("item(0, -1, 0)", x.item(0, -1, 0), -13);
        due.is("item(0, 2, 0)", x.item(0, 2, 0), -13);
        due.is("read(0, -1)", x.read(0, -1), TuesdayKnew.NO);
        due.is("read(-1, 0)", x.read(-1, 0), TuesdayKnew.NO);
        due.is("read(6, 0)", x.read(6, 0), TuesdayKnew.NO);
    }

    private static void items(TuesdayKnew x, int tape, int... want) {
        for (int i = 0; i < want.length; i++) {
            due.is("read(" + tape + ", " + i + ") after shift", x.read(tape, i), want[i]);
        }
    }

    private static void shift() {
        TuesdayKnew x = new TuesdayKnew();
        row(x, 0, 1, 2, 3, 4, 5);
        x.tape(1, 0, 4);
        x.tape(2, 1, 4);
        due.is("shift(-1, ..)", x.shift(-1, 0, 1, 0, 1), -1);
        due.is("shift(.., 6, ..)", x.shift(0, 0, 6, 0, 1), -1);
        due.is("shift(3, 0, 6, 0, 1)", x.shift(3, 0, 6, 0, 1), -1);
        due.is("shift of nothing", x.shift(3, -1, 1, 0, 1), -11);
        due.is("shift to nothing", x.shift(0, 0, 3, 0, 1), -11);
        due.is("shift of unlike sorts", x.shift(0, -1, 2, 0, 1), -12);
        due.is("shift of -1", x.shift(0, 0, 1, 0, -1), -13);
        due.is("shift from -1", x.shift(0, -1, 1, 0, 1), -13);
        due.is("shift to -1", x.shift(0, 0, 1, -1, 1), -13);
        due.is("shift from behind the end", x.shift(0, 6, 1, 0, 0), -13);
        due.is("shift to behind the end", x.shift(0, 0, 1, 5, 0), -13);
        due.is("shift of too many", x.shift(0, 3, 1, 0, 3), -13);
        due.is("shift into too few", x.shift(0, 0, 1, 3, 2), -13);
        due.is("shift, sums that wrap", x.shift(0, Integer.MAX_VALUE, 1, 0, 2), -13);
        due.is("shift, sums that wrap there", x.shift(0, 0, 1, 1, Integer.MAX_VALUE), -13);
        items(x, 1, 0, 0, 0, 0);
        due.is("shift of 0 at the ends", x.shift(0, 5, 1, 4, 0), 0);
        due.is("shift", x.shift(0, 1, 1, 2, 2), 2);
        items(x, 1, 0, 0, 2, 3);
        items(x, 0, 1, 2, 3, 4, 5);
        due.is("shift up the same", x.shift(0, 0, 0, 1, 4), 4);
        items(x, 0, 1, 1, 2, 3, 4);
        due.is("shift down the same", x.shift(0, 1, 0, 0, 4), 4);
        items(x, 0, 1, 2, 3, 4, 4);
    }
}
