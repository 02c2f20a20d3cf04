/** Promises 19 to 24: parted, watch, ask, blank, fills, filled. */
public final class LotsBlanksTest {
    private static final Due due = new Due("LotsBlanksTest");

    public static void main(String[] args) {
        parted();
        watch();
        ask();
        blanks();
        filling();
        due.end();
    }

    private static void parted() {
        TuesdayKnew x = Due.names(1, 2, 3);
        due.is("parted(-1, 0)", x.parted(-1, 0), -2);
        due.is("parted(1000, 0)", x.parted(1000, 0), -2);
        due.is("parted(1, -1)", x.parted(1, -1), -2);
        due.is("parted(1, 100)", x.parted(1, 100), -2);
        due.is("parted(0, 0), nobody knows", x.parted(0, 0), 0);
        due.is("parted(1, 0), nobody knows", x.parted(1, 0), -5);
        x.news(0, 10);
        x.news(1, 20);
        due.is("parted(1, 9)", x.parted(1, 9), -5);
        due.is("parted(1, 10)", x.parted(1, 10), 1);
        due.is("parted(998, 10)", x.parted(998, 10), 1);
        due.is("parted(999, 10)", x.parted(999, 10), -5);
        due.is("parted(999, 20)", x.parted(999, 20), 2);
        Due.law(x, "watch 11");
        due.is("parted(10, 99)", x.parted(10, 99), 1);
        due.is("parted(11, 99)", x.parted(11, 99), 2);
        due.is("parted(20, 99)", x.parted(20, 99), 2);
        due.is("parted(21, 99)", x.parted(21, 99), -5);
        Due.law(x, "watch 2");
        due.is("parted(2, 99), watch 2", x.parted(2, 99), 2);
        due.is("parted(3, 99), watch 2", x.parted(3, 99), -5);
        Due.law(x, "watch 1");
        due.is("parted(1, 99), watch 1", x.parted(1, 99), -5);
        due.is("parted(0, 99), watch 1", x.parted(0, 99), 0);
        Due.law(x, "watch 0");
        due.is("parted(1, 99), watch 0", x.parted(1, 99), -5);
        due.is("parted(0, 99), watch 0", x.parted(0, 99), 0);
    }

    private static void watch() {
        TuesdayKnew x = Due.names(1, 2, 3);
        due.is("watch(-1, 0, 0)", x.watch(-1, 0, 0), -2);
        due.is("watch(1000, 0, 0)", x.watch(1000, 0, 0), -2);
        due.is("watch(1, 100, 0)", x.watch(1, 100, 0), -2);
        due.is("watch(1, -1, 0)", x.watch(1, -1, 0), -2);
        due.is("watch(1, 0, -1)", x.watch(1, 0, -1), -2);
        due.is("watch(1, 0, 9)", x.watch(1, 0, 9), -2);
        due.is("watch(0, 0, 0)", x.watch(0, 0, 0), 1);
        due.is("watch(1, 0, 8), nobody knows", x.watch(1, 0, 8), -5);
        x.news(0, 0);
        x.news(1, 5);
        x.news(2, 5);
        due.is("watch(10, 0, 8), one knows", x.watch(10, 0, 8), 11);
        due.is("watch(10, 5, 8), three know", x.watch(10, 5, 8), 5);
        due.is("watch(10, 5, 2)", x.watch(10, 5, 2), 6);
        due.is("watch(9, 5, 3)", x.watch(9, 5, 3), 4);
        due.is("watch(10, 5, 0)", x.watch(10, 5, 0), -5);
        due.is("watch(998, 5, 1)", x.watch(998, 5, 1), 999);
        due.is("watch(999, 5, 1)", x.watch(999, 5, 1), -5);
        due.is("watch(999, 5, 2)", x.watch(999, 5, 2), 501);
        due.is("watch(0, 5, 8)", x.watch(0, 5, 8), 1);
        Due.law(x, "watch 3");
        due.is("watch(10, 5, 2), whatever the law's", x.watch(10, 5, 2), 6);
    }

    private static void ask() {
        TuesdayKnew x = new TuesdayKnew();
        due.is("ask(0) of none", x.ask(0), -1);
        due.is("ask(100) of none", x.ask(100), -1);
        for (int i = 0; i < 6; i++) {
            x.name(1);
        }
        due.is("ask(100)", x.ask(100), -2);
        due.is("ask(-1)", x.ask(-1), -2);
        due.is("ask(0), nobody knows", x.ask(0), 0);
        Due.law(x, "way 10 s=1;way 30 s=2");
        x.news(2, 0);
        x.news(0, 0);
        due.is("ask(99), nobody tells", x.ask(99), 0);
        // 2 tells 3, 3 tells 4 and 5, 0 tells 5 slowly.
        x.join(2, 3, 1);
        x.join(3, 4, 1);
        x.join(3, 5, 1);
        due.is("ask(9)", x.ask(9), 0);
        due.is("ask(10)", x.ask(10), 2);
        due.is("ask(99)", x.ask(99), 2);
        x.join(0, 3, 2);
        // Without 2, all know by 0, but later: by 39, 5 and 4 would not.
        due.is("ask(39)", x.ask(39), 2);
        due.is("ask(40)", x.ask(40), 3);
        x.join(0, 1, 1);
        x.join(1, 4, 2);
        x.join(1, 5, 2);
        due.is("ask(99), two ways everywhere", x.ask(99), 0);
        due.is("ask(29), 2 leaves three", x.ask(29), 2);
    }

    private static void blanks() {
        TuesdayKnew x = Due.names(1, 12);
        due.is("blank(0)", x.blank(0), -2);
        due.is("blank(13)", x.blank(13), -2);
        due.is("blank(-2)", x.blank(-2), -2);
        due.is("blank(-1) of none", x.blank(-1), 0);
        due.is("blank(12)", x.blank(12), 1);
        for (int i = 2; i <= 6; i++) {
            due.is("blank(1)", x.blank(1), i);
        }
        due.is("a seventh", x.blank(1), -4);
        due.is("a seventh of 13", x.blank(13), -2);
        due.is("count(3)", x.count(3), 6);
        due.is("fills(0)", x.fills(0), 2);
        due.is("fills(5)", x.fills(5), 1);
        due.is("blank(-1)", x.blank(-1), 0);
        due.is("count(3) then", x.count(3), 0);
        due.is("fills(0) then", x.fills(0), -1);
        due.is("blank(1) then", x.blank(1), 1);
    }

    private static void filling() {
        TuesdayKnew x = Due.names(3, 4, 3, 5, 3);
        due.is("fills(-1) of none", x.fills(-1), 1);
        due.is("fills(-2)", x.fills(-2), -1);
        due.is("filled(0) of none", x.filled(0), -1);
        due.is("filled(-1)", x.filled(-1), -1);
        x.blank(4);
        due.is("fills(-1), one way", x.fills(-1), 1);
        due.is("filled(0), one way", x.filled(0), 1);
        x.blank(3);
        due.is("fills(1)", x.fills(1), 1 | 4 | 16);
        due.is("fills(-1), three ways", x.fills(-1), 3);
        due.is("filled(0), sure", x.filled(0), 1);
        due.is("filled(1), not sure", x.filled(1), -5);
        x.blank(3);
        due.is("fills(-1), unlike names", x.fills(-1), 6);
        x.blank(3);
        due.is("fills(-1), all three", x.fills(-1), 6);
        due.is("filled(3)", x.filled(3), -5);
        x.blank(5);
        due.is("filled(4)", x.filled(4), 3);
        x.blank(5);
        due.is("fills(-1), one name twice", x.fills(-1), 0);
        due.is("filled(0), no way", x.filled(0), -5);
        due.is("filled(5), no way", x.filled(5), -5);
        due.is("filled(6)", x.filled(6), -1);
        due.is("fills(6)", x.fills(6), -1);
        x.name(5);
        due.is("fills(-1), a name more", x.fills(-1), 12);
        due.is("filled(0), a name more", x.filled(0), 1);
        x.blank(-1);
        x.blank(9);
        due.is("fills(0), no such name", x.fills(0), 0);
        due.is("fills(-1), no such name", x.fills(-1), 0);
        due.is("filled(0), no such name", x.filled(0), -5);
    }
}
