/** Promises 1 to 11: a new object, name, join, news, feed, law, goes, habit, knows, way, silent. */
public final class NamesNewsTest {
    private static final Due due = new Due("NamesNewsTest");

    public static void main(String[] args) {
        newObject();
        names();
        joinings();
        news();
        feeding();
        lawNumbers();
        faults();
        goesByConditions();
        habits();
        knowing();
        ways();
        silence();
        due.end();
    }

    private static void newObject() {
        TuesdayKnew x = new TuesdayKnew();
        for (int what = 0; what < 6; what++) {
            due.is("new: count(" + what + ")", x.count(what), 0);
        }
        due.is("new: knows(0)", x.knows(0), -1);
        due.is("new: undo()", x.undo(), -3);
        due.is("new: trace(0)", x.trace(0), -1);
        due.is("new: read(0, 0)", x.read(0, 0), TuesdayKnew.NO);
        due.is("new: fills(-1)", x.fills(-1), 1);
        due.is("new: sure(0)", x.sure(0), 0);
        due.is("new: ring(0)", x.ring(0), 0);
        due.is("NONE", TuesdayKnew.NONE, -1);
        due.is("BAD", TuesdayKnew.BAD, -2);
        due.is("STATE", TuesdayKnew.STATE, -3);
        due.is("FULL", TuesdayKnew.FULL, -4);
        due.is("NO", TuesdayKnew.NO, Long.MIN_VALUE);
    }

    private static void names() {
        TuesdayKnew x = new TuesdayKnew();
        due.is("name(0)", x.name(0), -2);
        due.is("name(13)", x.name(13), -2);
        due.is("name(-1)", x.name(-1), -2);
        due.is("count(0) after refusals", x.count(0), 0);
        due.is("name(1)", x.name(1), 0);
        due.is("name(12)", x.name(12), 1);
        for (int i = 2; i < 8; i++) {
            due.is("name(3)", x.name(3), i);
        }
        due.is("ninth name(3)", x.name(3), -4);
        due.is("ninth name(0)", x.name(0), -2);
        due.is("count(0)", x.count(0), 8);
    }

    private static void joinings() {
        TuesdayKnew x = Due.names(1, 2, 3);
        due.is("join(0, 3, 1)", x.join(0, 3, 1), -1);
        due.is("join(-1, 0, 1)", x.join(-1, 0, 1), -1);
        due.is("join(3, 3, 9)", x.join(3, 3, 9), -1);
        due.is("join(1, 1, 1)", x.join(1, 1, 1), -2);
        due.is("join(0, 1, 6)", x.join(0, 1, 6), -2);
        due.is("join(0, 1, -1)", x.join(0, 1, -1), -2);
        due.is("join(0, 1, 5)", x.join(0, 1, 5), 0);
        due.is("join(1, 0, 2)", x.join(1, 0, 2), 5);
        due.is("join(0, 1, 0)", x.join(0, 1, 0), 2);
        due.is("join(1, 0, 0)", x.join(1, 0, 0), 0);
        due.is("join(1, 2, 3)", x.join(1, 2, 3), 0);
        due.is("join(0, 2, 1)", x.join(0, 2, 1), 0);
        due.is("join(2, 1, 3)", x.join(2, 1, 3), 3);
    }

    private static void news() {
        TuesdayKnew x = Due.names(1, 2);
        due.is("news(2, 0)", x.news(2, 0), -1);
        due.is("news(-1, 100)", x.news(-1, 100), -1);
        due.is("news(0, 100)", x.news(0, 100), -2);
        due.is("news(0, -2)", x.news(0, -2), -2);
        due.is("news(0, 99)", x.news(0, 99), -5);
        due.is("news(0, 0)", x.news(0, 0), 99);
        due.is("knows(0)", x.knows(0), 0);
        due.is("news(0, -1)", x.news(0, -1), 0);
        due.is("knows(0) no more", x.knows(0), -5);
        due.is("news(0, 7)", x.news(0, 7), -5);
        due.is("news(1, -1)", x.news(1, -1), -5);
    }

    private static void feeding() {
        TuesdayKnew x = new TuesdayKnew();
        due.is("feed(1, -1)", x.feed(1, -1), -2);
        due.is("feed(1, 5)", x.feed(1, 5), -2);
        due.is("feed(1, 0)", x.feed(1, 0), 0);
        // "step", then "s 0" above a byte that is not taken
        due.is("feed step", x.feed(0x73746570, 4), 4);
        due.is("feed 's 0'", x.feed(0x7F732030, 3), 7);
        due.is("law() of two feeds", x.law(), 0);
        due.is("count(4) after law()", x.count(4), 0);
        for (int i = 1; i <= 25; i++) {
            due.is("feed of four", x.feed(0, 4), 4 * i);
        }
        due.is("feed beyond 100", x.feed(0, 1), -4);
        due.is("feed of none at 100", x.feed(0, 0), 100);
        due.is("feed of five at 100", x.feed(0, 5), -2);
        due.is("law() of zeros", x.law(), -10);
        for (int i = 1; i <= 24; i++) {
            x.feed(0, 4);
        }
        due.is("feed of three", x.feed(0, 3), 99);
        due.is("feed of two at 99", x.feed(0, 2), -4);
        due.is("count(4)", x.count(4), 99);
        due.is("feed of one at 99", x.feed(0, 1), 100);
    }

    private static void lawNumbers() {
        TuesdayKnew x = Due.names(1, 2);
        x.join(0, 1, 1);
        for (int i = 0; i < 6; i++) {
            due.is("law " + i, Due.law(x, "way " + i + " a<9"), i);
            due.is("goes by law " + i, x.goes(0, 1), i);
            if (i < 5) {
                due.is("faulty law", Due.law(x, "way  1 a<9"), -14);
                due.is("goes by law " + i + " after a fault", x.goes(0, 1), i);
            }
        }
        nothingOfFaultyLaws();
        due.is("feed", Due.feed(x, "paper 1"), 7);
        due.is("a seventh law", x.law(), -4);
        due.is("the text stays", x.count(4), 7);
        due.is("goes by the sixth", x.goes(0, 1), 5);
        due.is("count(2)", x.count(2), 6);
    }

    /** What has been read of laws with a fault is in no law that comes behind them. */
    private static void nothingOfFaultyLaws() {
        TuesdayKnew x = Due.names(1, 2);
        x.join(0, 1, 1);
        for (int i = 0; i < 40; i++) {
            Due.law(x, "way 3 a<9;habit 50 " + "a<9&".repeat(20));
        }
        due.is("goes after forty faults", x.goes(0, 1), -5);
        Due.law(x, "paper 1;paper 2;paper 3;paper 4;paper 5;steps 1;steps 2;paper 9;way 7 a=1;way 4 a=0");
        due.is("goes by the tenth clause", x.goes(0, 1), 4);
        due.is("goes by the ninth clause", x.goes(1, 0), 7);
        due.is("habit by none", x.habit(0, 0), 0);
        Due.law(x, "way 3 a<9;way 3 ");
        Due.law(x, "habit 5 a=0|a=1&f=0");
        due.is("goes by no way", x.goes(0, 1), -5);
        due.is("habit(0, 1)", x.habit(0, 1), 5);
        due.is("habit(1, 1)", x.habit(1, 1), 0);
        // As many signs as a text can hold: 23 tests, and what joins them.
        Due.law(x, "way 1 b=2" + "|b=2".repeat(21) + "|b=1");
        due.is("goes by the last test", x.goes(0, 1), 1);
        due.is("goes not by it", x.goes(1, 0), -5);
    }

    private static void fault(String text, int place) {
        TuesdayKnew x = new TuesdayKnew();
        due.is("law() of \"" + text + "\"", Due.law(x, text), -10 - place);
        due.is("count(4) after \"" + text + "\"", x.count(4), 0);
        due.is("count(2) after \"" + text + "\"", x.count(2), 0);
    }

    private static void fits(String text) {
        due.is("law() of \"" + text + "\"", Due.law(new TuesdayKnew(), text), 0);
    }

    private static void faults() {
        fault("", 0);
        fault(" way 1 a=1", 0);
        fault("x", 0);
        fault("w", 1);
        fault("wa", 2);
        fault("wax 1", 2);
        fault("wuy 3", 1);
        fault("watc 3", 4);
        fault("watc", 4);
        fault("paler 3", 2);
        fault("stepz", 4);
        fault("hobit", 1);
        fault("way", 3);
        fault("way ", 4);
        fault("way x", 4);
        fault("way 1", 5);
        fault("way 1;", 5);
        fault("way 1 ", 6);
        fault("way 1  a=1", 6);
        fault("way 1234 a=1", 7);
        fault("way 1 q=1", 6);
        fault("way 1 a", 7);
        fault("way 1 a~1", 7);
        fault("way 1 a=", 8);
        fault("way 1 a=x", 8);
        fault("way 1 a=123", 10);
        fault("way 1 a=1 ", 9);
        fault("way 1 a=1)", 9);
        fault("way 1 a=1|", 10);
        fault("way 1 a=1||b=1", 10);
        fault("way 1 a=1&", 10);
        fault("way 1 a=1&|", 10);
        fault("way 1 ()", 7);
        fault("way 1 (a=1", 10);
        fault("way 1 (a=1;", 10);
        fault("way 1 (a=1))", 11);
        fault("way 1 !", 7);
        fault("way 1 !)", 7);
        fault("way 1 a=1;", 10);
        fault("way 1 a=1;;", 10);
        fault("way 1 a=1; way 2 a=1", 10);
        fault("paper", 5);
        fault("paper ", 6);
        fault("paper 5 a=1", 7);
        fault("paper 5;steps", 13);
        fault("steps 1234", 9);
        fault("way 1 (((((a=1)))))", 10);
        fault("way 1 !!!!!a=1", 10);
        fault("way 1 !(!((a=1))", 10);
        fault("way 1 !(!(!a=1)", 10);
        fault("way 1 a=1|!(!((a=1))", 14);
        fault("paper 1;paper 2;paper 3;paper 4;paper 5;paper 6;paper 7;paper 8;paper 9;paper 0;paper 1", 79);
        fault("paper 1;paper 2;paper 3;paper 4;paper 5;paper 6;paper 7;paper 8;paper 9;paper 0;", 79);
        fits("paper 1;paper 2;paper 3;paper 4;paper 5;paper 6;paper 7;paper 8;paper 9;paper 0");
        fits("way 999 a<99|b>0&s=1&!l=0|(f=8)");
        fits("way 1 !!!!a=1&!!!!a=1|((((a=1))))&!(!(a=1))");
        fits("habit 1 a=1&(b=2|s<3)&!(l>4&f=5);watch 0;steps 000;paper 999");
        // A text of 100 bytes, and a byte that is no sign at all.
        String full = "way 1 a=1&a=1&a=1&a=1&a=1&a=1&a=1&a=1&a=1&a=1&a=1&a=1&a=1&a=1&a=1&a=1&a=1&a=1&a=1&a=1&a=1&a=1&a=1&a=";
        fault(full.substring(0, 100), 100);
        fits(full.substring(0, 97));
        fault("way 1 a=1" + (char) 255, 9);
    }

    private static void goesByConditions() {
        TuesdayKnew x = Due.names(4, 5, 6, 7);
        x.join(0, 1, 1);
        x.join(1, 2, 2);
        x.join(2, 3, 3);
        due.is("goes(0, 4)", x.goes(0, 4), -1);
        due.is("goes(4, 4)", x.goes(4, 4), -1);
        due.is("goes(1, 1)", x.goes(1, 1), -2);
        due.is("goes without a law", x.goes(0, 1), -5);
        goes(x, "way 7 a<1", 7, -5, -5, -5, -5, -5);
        goes(x, "way 7 s=2;way 8 a=0|a=3;way 9 s<9", 8, 9, 7, 7, 9, 8);
        goes(x, "way 7 l=0&f=0&s>2;way 0 !(a=0|b=0)&!s=3", -5, -5, 0, 0, 7, 7);
        goes(x, "way 1 a=0|a=1&b=2|b=3", 1, -5, 1, -5, 1, -5);
        goes(x, "way 1 (a=0|a=1)&b=2", -5, -5, 1, -5, -5, -5);
        goes(x, "habit 3 a<9;way 1 !a=1&b=2", -5, -5, -5, -5, -5, 1);
    }

    /** How long it goes from 0 to 1 and back, from 1 to 2 and back, from 2 to 3 and back. */
    private static void goes(TuesdayKnew x, String law, int... want) {
        Due.law(x, law);
        due.is(law + ": goes(0, 2), not joined", x.goes(0, 2), -5);
        for (int i = 0; i < 3; i++) {
            due.is(law + ": goes(" + i + ", " + (i + 1) + ")", x.goes(i, i + 1), want[2 * i]);
            due.is(law + ": goes(" + (i + 1) + ", " + i + ")", x.goes(i + 1, i), want[2 * i + 1]);
        }
    }

    private static void habits() {
        TuesdayKnew x = Due.names(4, 12);
        due.is("habit without a law", x.habit(0, 0), 0);
        Due.law(x, "habit 40 l=4;habit 15 f>6;habit 70 f=8&l>3;way 9 f<9;habit 5 a=1&b=0&s=0");
        due.is("habit(2, 0)", x.habit(2, 0), -1);
        due.is("habit(0, 9)", x.habit(0, 9), -1);
        due.is("habit(0, -1)", x.habit(0, -1), -1);
        due.is("habit(0, 0)", x.habit(0, 0), 40);
        due.is("habit(0, 7)", x.habit(0, 7), 55);
        due.is("habit(0, 8)", x.habit(0, 8), 100);
        due.is("habit(1, 6)", x.habit(1, 6), 5);
        due.is("habit(1, 8)", x.habit(1, 8), 90);
        Due.law(x, "habit 999 a<99");
        due.is("habit of 999", x.habit(0, 0), 100);
        Due.law(x, "habit 0 a<99;paper 3");
        due.is("habit of 0", x.habit(0, 0), 0);
    }

    private static void knowing() {
        TuesdayKnew x = Due.names(4, 5, 6, 7, 8);
        x.join(0, 1, 1);
        x.join(1, 2, 1);
        x.join(2, 3, 1);
        x.join(0, 3, 2);
        x.news(0, 10);
        due.is("knows(-1)", x.knows(-1), -1);
        due.is("knows(5)", x.knows(5), -1);
        due.is("knows(0) without a law", x.knows(0), 10);
        due.is("knows(1) without a law", x.knows(1), -5);
        Due.law(x, "way 3 s=1;way 50 s=2");
        due.is("knows(3), three steps", x.knows(3), 19);
        due.is("knows(4), joined to none", x.knows(4), -5);
        Due.law(x, "way 3 s=1;way 50 s=2;steps 2");
        due.is("knows(2), two steps", x.knows(2), 16);
        due.is("knows(3), two steps", x.knows(3), 60);
        Due.law(x, "way 3 s=1;way 50 s=2;steps 999;steps 0");
        due.is("knows(0), no step", x.knows(0), 10);
        due.is("knows(1), no step", x.knows(1), -5);
        Due.law(x, "way 3 s=1;way 500 s=2");
        x.news(3, 99);
        due.is("knows(3), heard before it had it", x.knows(3), 19);
        x.news(3, 12);
        due.is("knows(2), from the other side", x.knows(2), 15);
        x.join(0, 1, 0);
        x.news(3, -1);
        due.is("knows(3), far behind hour 99", x.knows(3), 510);
        due.is("knows(1), farther", x.knows(1), 516);
        Due.law(x, "way 3 a=0");
        due.is("knows(3), one way only", x.knows(3), 13);
        due.is("knows(2), not backwards", x.knows(2), -5);
        stepsOfNine();
    }

    /** A row of eight: seven steps are enough for any law that tells 7 or more. */
    private static void stepsOfNine() {
        TuesdayKnew x = Due.names(1, 1, 1, 1, 1, 1, 1, 1);
        for (int i = 0; i < 7; i++) {
            x.join(i, i + 1, 4);
        }
        x.news(0, 0);
        Due.law(x, "way 1 s=4");
        due.is("knows(7) by steps untold", x.knows(7), 7);
        Due.law(x, "way 1 s=4;steps 10");
        due.is("knows(7) by steps 10", x.knows(7), 7);
        Due.law(x, "way 1 s=4;steps 6");
        due.is("knows(7) by steps 6", x.knows(7), -5);
        due.is("knows(6) by steps 6", x.knows(6), 6);
    }

    private static void way(TuesdayKnew x, int name, int... row) {
        due.is("way(" + name + ", -1)", x.way(name, -1), row.length);
        for (int i = 0; i < row.length; i++) {
            due.is("way(" + name + ", " + i + ")", x.way(name, i), row[i]);
        }
        due.is("way behind its end", x.way(name, row.length), -1);
        due.is("way(" + name + ", -2)", x.way(name, -2), -1);
    }

    private static void ways() {
        TuesdayKnew x = Due.names(4, 5, 6, 7, 8, 9);
        due.is("way(6, -1)", x.way(6, -1), -1);
        due.is("way(-1, -1)", x.way(-1, -1), -1);
        way(x, 0);
        x.news(5, 10);
        way(x, 5, 5);
        Due.law(x, "way 2 s=1;way 4 s=2;way 0 s=3");
        x.join(5, 4, 1);
        x.join(4, 0, 1);
        way(x, 0, 5, 4, 0);
        // As soon by one step as by two: as few as can be.
        x.join(5, 0, 2);
        way(x, 0, 5, 0);
        // Two ways alike in hours and steps: the first as a row.
        x.join(5, 0, 0);
        x.join(5, 2, 1);
        x.join(2, 0, 1);
        way(x, 0, 5, 2, 0);
        // A lower name that comes later to the same is no way at all.
        x.join(5, 1, 2);
        x.join(1, 0, 2);
        way(x, 0, 5, 2, 0);
        // Another one that had it first, as soon and in as many steps, stands ahead.
        x.news(3, 10);
        x.join(3, 4, 1);
        way(x, 0, 3, 4, 0);
        // One that comes as soon in no time, from its own news: itself alone.
        x.news(0, 14);
        way(x, 0, 0);
        x.news(0, 15);
        way(x, 0, 3, 4, 0);
        // Two in no time at all.
        x.join(3, 1, 3);
        way(x, 1, 3, 1);
        longWays();
    }

    /** One name, 3, is fewer than the three whose bits are less: 0, 1 and 2 tell 3, and 3 tells 4 and 5. */
    private static void fewestAheadOfLeast() {
        TuesdayKnew x = Due.names(1, 1, 1, 1, 1, 1);
        Due.law(x, "way 1 a<9");
        for (int i = 0; i < 3; i++) {
            x.news(i, i);
            x.join(i, 3, 1);
        }
        x.join(3, 4, 1);
        x.join(3, 5, 1);
        x.join(5, 4, 1);
        due.is("silent(4, 9), fewest", x.silent(4, 9), 8);
        due.is("silent(4, 1)", x.silent(4, 1), 0);
        due.is("silent(3, 9), all three", x.silent(3, 9), 7);
        due.is("silent(3, 2), the two that come by then", x.silent(3, 2), 3);
        x.join(0, 4, 1);
        due.is("silent(4, 9), two", x.silent(4, 9), 9);
        due.is("silent(4, 1), one", x.silent(4, 1), 1);
    }

    private static void longWays() {
        TuesdayKnew x = Due.names(1, 1, 1, 1, 1, 1, 1, 1);
        int[] row = {6, 2, 5, 0, 7, 1, 4, 3};
        for (int i = 0; i < 7; i++) {
            x.join(row[i], row[i + 1], 1);
        }
        x.news(6, 0);
        Due.law(x, "way 5 s=1;way 9 s=2");
        way(x, 3, row);
        way(x, 0, 6, 2, 5, 0);
        // By 9 in one step, sooner than by 10 in two.
        x.join(6, 5, 2);
        way(x, 3, 6, 5, 0, 7, 1, 4, 3);
        // 5 and 9 in two steps, or 9 and 5: 2 is less than 7.
        x.join(6, 5, 0);
        x.join(6, 7, 2);
        x.join(2, 1, 2);
        way(x, 3, 6, 2, 1, 4, 3);
        way(x, 1, 6, 2, 1);
        Due.law(x, "way 5 s=1;way 9 s=2;steps 6");
        x.join(6, 7, 0);
        x.join(2, 1, 0);
        way(x, 3);
        way(x, 4, 6, 2, 5, 0, 7, 1, 4);
    }

    private static void silence() {
        TuesdayKnew x = Due.names(1, 2, 3, 4, 5);
        x.news(0, 5);
        due.is("silent(5, 0)", x.silent(5, 0), -1);
        due.is("silent(5, 100)", x.silent(5, 100), -1);
        due.is("silent(0, 100)", x.silent(0, 100), -2);
        due.is("silent(0, -1)", x.silent(0, -1), -2);
        due.is("silent(0, 5)", x.silent(0, 5), -5);
        due.is("silent(0, 4)", x.silent(0, 4), 0);
        due.is("silent(4, 99)", x.silent(4, 99), 0);
        // 0 to 4 by 1 and by 2: the one that had it is one alone.
        Due.law(x, "way 10 s=1;way 30 s=2");
        x.join(0, 1, 1);
        x.join(1, 4, 1);
        x.join(0, 2, 2);
        x.join(2, 4, 1);
        due.is("silent(4, 24)", x.silent(4, 24), 0);
        due.is("silent(4, 25)", x.silent(4, 25), 1);
        due.is("silent(4, 99)", x.silent(4, 99), 1);
        // Two had it: by 44 only the quick ways count, by 45 the slow one too.
        x.news(3, 0);
        x.join(3, 1, 1);
        due.is("silent(4, 44) of two that had it", x.silent(4, 44), 2);
        due.is("silent(4, 45) of two that had it", x.silent(4, 45), 3);
        x.join(0, 1, 0);
        due.is("silent(4, 99), two apart", x.silent(4, 99), 3);
        x.join(3, 4, 1);
        due.is("silent(4, 99), one joined to it", x.silent(4, 99), 9);
        // It had it later than that hour: others must be silent, itself does not count.
        x.news(4, 90);
        due.is("silent(4, 89)", x.silent(4, 89), 9);
        due.is("silent(4, 90)", x.silent(4, 90), -5);
        fewestAheadOfLeast();
    }
}
