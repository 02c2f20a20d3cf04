/** The document's edges, sentence by sentence: promises 1 to 5, names, joinings, news, feeding. */
public final class EdgesNamesTest {
    private static final Due due = new Due("EdgesNamesTest");

    public static void main(String[] args) {
        newObject();
        newObjectsApart();
        lastCall();
        names();
        joinSorts();
        joinNames();
        allPairs();
        news();
        feedNumbers();
        feedFull();
        due.end();
    }

    private static void edge(String sentence, String calls) {
        Script.run(due, sentence, calls);
    }

    private static void newObject() {
        edge("1 A new object: Nobody", """
            count(0) = 0
            knows(0) = NONE
            ask(0) = NONE
            oddest(0) = NONE
            name(5) = 0
            """);
        edge("1 A new object: no NEWS", """
            8 times name(1)
            knows(0) = NEVER
            knows(7) = NEVER
            ask(99) = 0
            parted(1, 99) = NEVER
            news(0, -1) = NEVER
            news(1, 0) = NEVER
            news(2, 99) = NEVER
            news(3, 0) = NEVER
            news(4, 0) = NEVER
            news(5, 0) = NEVER
            news(6, 0) = NEVER
            news(7, 0) = NEVER
            """);
        edge("1 A new object: nothing else either", """
            count(1) = 0
            count(2) = 0
            count(3) = 0
            count(4) = 0
            count(5) = 0
            trace(0) = NONE
            undo() = STATE
            sure(0) = 0
            sure(1) = 0
            ring(0) = 0
            ring(1) = 0
            of(0, 0) = NONE
            taken(0, 0) = NOTHING
            fills(0) = NONE
            fills(-1) = 1
            filled(0) = NONE
            """);
        edge("4 TAPES hold nothing (at first)", """
            name(1) = 0
            read(0, 0) = NO
            read(5, 0) = NO
            item(0, 0, 1) = NOTHING
            item(1, 0, 1) = NOTHING
            item(2, 0, 1) = NOTHING
            item(3, 0, 1) = NOTHING
            item(4, 0, 1) = NOTHING
            item(5, 0, 1) = NOTHING
            judge(0, 0, 0) = 1000
            judge(5, 0, 0) = 1000
            shift(0, 0, 5, 0, 0) = NOTHING
            """);
        edge("1 The text is empty at first, and no LAW holds", """
            name(1) = 0
            name(1) = 1
            join(0, 1, 1) = 0
            goes(0, 1) = NEVER
            habit(0, 0) = 0
            law() = -10
            """);
    }

    /** What one object has been told, another one does not know. */
    private static void newObjectsApart() {
        TuesdayKnew first = Due.names(1, 2);
        first.join(0, 1, 3);
        first.news(0, 7);
        Due.law(first, "way 3 s=3;habit 9 a<9");
        first.trade(3, 0, 0, 9, 1);
        first.blank(1);
        first.act(0, 2, 1);
        first.tape(0, 0, 5);
        first.image();
        Due.feed(first, "way");
        TuesdayKnew second = new TuesdayKnew();
        for (int what = 0; what < 6; what++) {
            due.is("1 A second object: count(" + what + ")", second.count(what), 0);
        }
        due.is("1 A second object: undo()", second.undo(), -3);
        due.is("1 A second object: trace(0)", second.trace(0), -1);
        due.is("1 A second object: item(0, 0, 1)", second.item(0, 0, 1), -11);
        second.name(1);
        second.name(2);
        due.is("1 A second object: habit(0, 0)", second.habit(0, 0), 0);
        due.is("1 A second object: join(0, 1, 1)", second.join(0, 1, 1), 0);
        due.is("1 A second object: news(0, 1)", second.news(0, 1), -5);
        due.is("the first object: knows(1)", first.knows(1), 10);
        due.is("the first object: join(0, 1, 0)", first.join(0, 1, 0), 3);
        due.is("the first object: news(0, 0)", first.news(0, 0), 7);
        due.is("the first object: trace(1)", first.trace(1), 12);
    }

    /** "An object is used for at most 512 calls": the last of them is one like all others. */
    private static void lastCall() {
        TuesdayKnew x = Due.names(1, 2);
        for (int i = 3; i < 512; i++) {
            x.join(0, 1, i % 6);
        }
        due.is("the 512th call: join(0, 1, 0)", x.join(0, 1, 0), 511 % 6);
        x = Due.names(1, 2);
        for (int i = 3; i < 512; i++) {
            due.is("call " + i + ": name(0)", x.name(0), -2);
        }
        due.is("the 512th call: name(3)", x.name(3), 2);
    }

    private static void names() {
        edge("1 NAMES 0 .. 7, as they come; 2 name: its number", """
            name(1) = 0
            name(2) = 1
            name(3) = 2
            name(4) = 3
            name(5) = 4
            name(6) = 5
            name(7) = 6
            name(8) = 7
            count(0) = 8
            """);
        edge("2 name: FULL", """
            7 times name(4)
            name(4) = 7
            name(4) = FULL
            name(1) = FULL
            name(12) = FULL
            count(0) = 8
            """);
        edge("2 name: BAD: letters; 1 LETTERS (1 .. 12), the least", """
            name(0) = BAD
            name(-1) = BAD
            name(MIN) = BAD
            count(0) = 0
            name(1) = 0
            blank(1) = 1
            fills(0) = {0}
            """);
        edge("2 name: BAD: letters; 1 LETTERS (1 .. 12), the most", """
            name(13) = BAD
            name(MAX) = BAD
            count(0) = 0
            name(12) = 0
            blank(12) = 1
            fills(0) = {0}
            """);
        edge("2 name: BAD ahead of FULL", """
            8 times name(4)
            name(0) = BAD
            name(13) = BAD
            name(-1) = BAD
            """);
    }

    private static void joinSorts() {
        edge("1 JOINED by a SORT (0 not, at first ..)", """
            2 times name(1)
            join(0, 1, 0) = 0
            join(1, 0, 1) = 0
            """);
        edge("1 JOINED by a SORT (.. 1 .. 5); 3 join: BAD: sort", """
            2 times name(1)
            join(0, 1, -1) = BAD
            join(0, 1, MIN) = BAD
            join(0, 1, 1) = 0
            join(0, 1, 2) = 1
            join(0, 1, 3) = 2
            join(0, 1, 4) = 3
            join(0, 1, 5) = 4
            join(0, 1, 6) = BAD
            join(0, 1, MAX) = BAD
            join(0, 1, -1) = BAD
            join(0, 1, 0) = 5
            """);
        edge("3 join: (0: not)", """
            2 times name(1)
            law "way 3 s<9" = 0
            join(0, 1, 1) = 0
            goes(0, 1) = 3
            goes(1, 0) = 3
            join(0, 1, 0) = 1
            goes(0, 1) = NEVER
            goes(1, 0) = NEVER
            join(0, 1, 0) = 0
            """);
        edge("1 Two NAMES are JOINED .. both ways", """
            2 times name(1)
            law "way 3 s=4" = 0
            join(0, 1, 4) = 0
            goes(0, 1) = 3
            goes(1, 0) = 3
            join(1, 0, 2) = 4
            goes(0, 1) = NEVER
            goes(1, 0) = NEVER
            join(1, 0, 3) = 2
            join(0, 1, 0) = 3
            join(1, 0, 0) = 0
            """);
    }

    private static void joinNames() {
        edge("3 join: NONE: names", """
            join(0, 1, 1) = NONE
            join(0, 0, 1) = NONE
            3 times name(1)
            join(-1, 0, 1) = NONE
            join(0, -1, 1) = NONE
            join(3, 0, 1) = NONE
            join(0, 3, 1) = NONE
            join(MIN, 0, 1) = NONE
            join(0, MAX, 1) = NONE
            join(2, 0, 1) = 0
            join(1, 2, 1) = 0
            join(0, 2, 0) = 1
            """);
        edge("3 join: NONE beyond the last of eight", """
            8 times name(1)
            join(8, 7, 1) = NONE
            join(7, 8, 1) = NONE
            join(7, 6, 5) = 0
            join(0, 7, 1) = 0
            join(7, 0, 2) = 1
            """);
        edge("3 join: BAD: one NAME", """
            8 times name(1)
            join(0, 0, 1) = BAD
            join(7, 7, 5) = BAD
            join(3, 3, 0) = BAD
            """);
        edge("3 join: NONE ahead of BAD", """
            2 times name(1)
            join(2, 2, 1) = NONE
            join(-1, -1, 1) = NONE
            join(0, 2, 6) = NONE
            join(2, 0, -1) = NONE
            """);
    }

    /** Each of the 28 pairs has a sort of its own, none another one's. */
    private static void allPairs() {
        TuesdayKnew x = Due.names(1, 1, 1, 1, 1, 1, 1, 1);
        for (int a = 0; a < 8; a++) {
            for (int b = a + 1; b < 8; b++) {
                due.is("3 join: at first", x.join(a, b, 1 + (a + 3 * b) % 5), 0);
            }
        }
        for (int a = 0; a < 8; a++) {
            for (int b = a + 1; b < 8; b++) {
                due.is("3 join: which it was: join(" + b + ", " + a + ", 0)", x.join(b, a, 0), 1 + (a + 3 * b) % 5);
            }
        }
    }

    private static void news() {
        edge("1 an HOUR (0 .. 99), the least; 4 news: BAD", """
            name(1) = 0
            news(0, -2) = BAD
            news(0, MIN) = BAD
            knows(0) = NEVER
            news(0, 0) = NEVER
            knows(0) = 0
            news(0, -2) = BAD
            knows(0) = 0
            """);
        edge("1 an HOUR (0 .. 99), the last; 4 news: BAD", """
            name(1) = 0
            news(0, 100) = BAD
            news(0, MAX) = BAD
            knows(0) = NEVER
            news(0, 99) = NEVER
            knows(0) = 99
            news(0, 100) = BAD
            knows(0) = 99
            """);
        edge("4 news: (-1: not)", """
            2 times name(1)
            news(1, 5) = NEVER
            news(0, -1) = NEVER
            news(0, 3) = NEVER
            news(0, -1) = 3
            knows(0) = NEVER
            knows(1) = 5
            news(0, -1) = NEVER
            """);
        edge("4 news: from when it had (-5: not)", """
            name(1) = 0
            news(0, 0) = NEVER
            news(0, 99) = 0
            news(0, 1) = 99
            news(0, 1) = 1
            news(0, -1) = 1
            news(0, 2) = NEVER
            """);
        edge("4 news: NONE", """
            news(0, 0) = NONE
            8 times name(1)
            news(-1, 0) = NONE
            news(8, 0) = NONE
            news(MIN, 0) = NONE
            news(MAX, 0) = NONE
            news(7, 9) = NEVER
            knows(7) = 9
            knows(6) = NEVER
            """);
        edge("4 news: NONE ahead of BAD", """
            3 times name(1)
            news(3, 100) = NONE
            news(-1, -2) = NONE
            """);
    }

    private static void feedNumbers() {
        edge("5 feed: (n 0 .. 4); BAD", """
            feed(0, -1) = BAD
            feed(0, MIN) = BAD
            feed(0, 5) = BAD
            feed(0, MAX) = BAD
            count(4) = 0
            feed(0, 0) = 0
            feed(0, 1) = 1
            feed(0, 2) = 3
            feed(0, 3) = 6
            feed(0, 4) = 10
            feed(0, 5) = BAD
            feed(0, -1) = BAD
            count(4) = 10
            """);
        edge("5 feed: the n lowest bytes of a number, the highest first", """
            name(1) = 0
            feed(0x68616269, 4) = 4
            feed(0x7f7f7f74, 1) = 5
            feed(0x7f7f2037, 2) = 7
            feed(0x7f20613d, 3) = 10
            feed(-208, 1) = 11
            law() = 0
            habit(0, 0) = 7
            """);
        edge("5 feed: bytes above 127 are others than those below", """
            feed(0x77e17920, 4) = 4
            feed(0x3120613d, 4) = 8
            feed(0x31, 1) = 9
            law() = -11
            feed(-1, 4) = 4
            law() = -10
            feed(0x7761f920, 4) = 4
            law() = -12
            """);
        edge("5 feed: come behind THE TEXT's", """
            feed "pap" = 3
            feed "er" = 5
            feed(0, 0) = 5
            feed " 3" = 7
            law() = 0
            """);
    }

    private static void feedFull() {
        edge("5 feed: FULL; 1 bytes, 100 at most: by one", """
            24 times feed(0, 4)
            feed(0, 3) = 99
            feed(0, 2) = FULL
            feed(0, 3) = FULL
            feed(0, 4) = FULL
            count(4) = 99
            feed(0, 1) = 100
            feed(0, 1) = FULL
            count(4) = 100
            """);
        edge("5 feed: FULL; 1 bytes, 100 at most: by four", """
            24 times feed(0, 4)
            feed(0, 1) = 97
            feed(0, 4) = FULL
            feed(0, 3) = 100
            feed(0, 4) = FULL
            feed(0, 3) = FULL
            feed(0, 2) = FULL
            feed(0, 0) = 100
            """);
        edge("5 feed: four fit behind 96", """
            24 times feed(0, 4)
            count(4) = 96
            feed(0, 4) = 100
            """);
        edge("5 feed: what is answered FULL takes none of its bytes", """
            law "paper 1;paper 1;paper 1;paper 1;paper 1;paper 1;paper 1;paper 1;watch 1;habit 100 a=1&b=0&s=0&l<9" = 0
            feed "paper 1;paper 1;paper 1;paper 1;paper 1;paper 1;paper 1;paper 1;watch 1;habit 100 a=1&b=0&s=0&l<9" = 97
            feed(0x30303030, 4) = FULL
            count(4) = 97
            law() = 1
            """);
        edge("5 feed: BAD ahead of FULL", """
            25 times feed(0, 4)
            feed(0, 5) = BAD
            feed(0, -1) = BAD
            """);
    }
}
