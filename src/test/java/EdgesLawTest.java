/** The document's edges, sentence by sentence: promises 6 to 8, laws, how long it goes, habit. */
public final class EdgesLawTest {
    private static final Due due = new Due("EdgesLawTest");
    private static final String[] WORDS = {"way", "habit", "paper", "watch", "steps"};

    public static void main(String[] args) {
        lawNumbers();
        emptyThen();
        clauseNumbers();
        words();
        blanks();
        digitsOfParts();
        partsOfWords();
        eitherAndAll();
        tests();
        digitsOfTests();
        brackets();
        fourOthers();
        textOfHundred();
        comparing();
        binding();
        meansNothing();
        newest();
        goesEdges();
        goesRefusals();
        habitEdges();
        habitRefusals();
        due.end();
    }

    private static void edge(String sentence, String calls) {
        Script.run(due, sentence, calls);
    }

    /** The text has its fault at a place; then it is empty, and there is no law more. */
    private static void fault(String sentence, String text, int place) {
        edge(sentence, """
            law "%s" = %d
            count(4) = 0
            count(2) = 0
            """.formatted(text, -10 - place));
    }

    private static void fits(String sentence, String... texts) {
        for (String text : texts) {
            edge(sentence, """
                law "%s" = 0
                count(4) = 0
                count(2) = 1
                """.formatted(text));
        }
    }

    private static void lawNumbers() {
        edge("6 law: its number; FULL: there are 6", """
            2 times name(1)
            join(0, 1, 1) = 0
            law "way 10 a<9" = 0
            law "way 11 a<9" = 1
            law "way 12 a<9" = 2
            law "way 13 a<9" = 3
            law "way 14 a<9" = 4
            law "way 15 a<9" = 5
            count(2) = 6
            law "way 16 a<9" = FULL
            count(2) = 6
            goes(0, 1) = 15
            """);
        edge("6 law: FULL: .. (THE TEXT stays)", """
            6 times law "paper 1"
            feed "paper 2" = 7
            law() = FULL
            count(4) = 7
            feed ";" = 8
            law() = FULL
            count(4) = 8
            """);
        edge("6 law: FULL ahead of the FAULT", """
            6 times law "paper 1"
            law() = FULL
            feed "wuy" = 3
            law() = FULL
            count(4) = 3
            """);
        edge("6 law: a FAULT takes no number", """
            law "paper 1" = 0
            law "paper" = -15
            law "paper 2" = 1
            count(2) = 2
            """);
    }

    private static void emptyThen() {
        edge("6 law: THE TEXT, which is empty then: behind a LAW", """
            law "paper 1" = 0
            count(4) = 0
            law() = -10
            """);
        edge("6 law: THE TEXT, which is empty then: behind a FAULT", """
            law "paper 1;" = -18
            count(4) = 0
            law "paper 1" = 0
            """);
        edge("6 law: THE TEXT, which is empty then: nothing of it stands behind the next", """
            law "paper 123" = 0
            law "pape" = -14
            law "paper" = -15
            law "paper " = -16
            law "way 1 a=12&(b=1)" = 1
            law "way 1 a=1" = 2
            law "way 1 a=12&" = -21
            law "way 1 a=12&(b=1)|!a=1" = 3
            law "way 1 a=12&(b=1)|" = -27
            law "way 1 a=12&(b=1" = -25
            law "way 1 a=12&(b=" = -24
            law "way 1 a=12&(b" = -23
            law "way 1 a=12&(" = -22
            law "way 1 " = -16
            law "paper 1;paper 2" = 4
            law "paper 1;" = -18
            """);
        edge("6 law: a shorter number behind a longer one", """
            name(1) = 0
            trade(0, 0, 0, 1, 1) = 0
            law "paper 123" = 0
            of(0, 5) = {0}
            law "paper 1" = 1
            of(0, 5) = {0 2}
            law "habit 123 a<99" = 2
            habit(0, 0) = 100
            law "habit 1 a<9" = 3
            habit(0, 0) = 1
            """);
        edge("6 law: -10 less the FAULT (the one that held holds)", """
            2 times name(1)
            join(0, 1, 1) = 0
            law "way 3 a<9;habit 7 a<9" = 0
            law "way 4 a<9;habit 8 a<9;" = -32
            goes(0, 1) = 3
            habit(0, 0) = 7
            law "" = -10
            goes(0, 1) = 3
            law "way 5 a<9;habit 9 a<9;paper 1;x" = -40
            goes(0, 1) = 3
            habit(0, 0) = 7
            """);
        edge("6 law: of a text with a FAULT nothing is in the next LAW", """
            2 times name(1)
            join(0, 1, 1) = 0
            law "way 3 a<9;habit 7 a<9;" = -32
            law "paper 1" = 0
            goes(0, 1) = NEVER
            habit(0, 0) = 0
            law "steps 0;way 3 a<9;habit 7 a=1|" = -40
            law "habit 5 a=0" = 1
            goes(0, 1) = NEVER
            habit(0, 0) = 5
            habit(1, 0) = 0
            """);
        edge("6 law: a FAULT ahead of the first LAW: there are no CLAUSES still", """
            2 times name(1)
            join(0, 1, 1) = 0
            law "way 3 a<9;habit 7 a<9;" = -32
            goes(0, 1) = NEVER
            habit(0, 0) = 0
            """);
    }

    private static void clauseNumbers() {
        String nine = "steps 1;".repeat(9);
        fault("1 CLAUSES, 1 to 10: none", "", 0);
        fits("1 CLAUSES, 1 to 10: one", "paper 1");
        fits("1 CLAUSES, 1 to 10: ten", nine + "paper 1");
        fault("1 CLAUSES, 1 to 10: an eleventh", nine + "paper 1;paper 1", 79);
        fault("1 CLAUSES, 1 to 10: ; behind the tenth", nine + "paper 1;", 79);
        edge("1 CLAUSES, 1 to 10: the first and the tenth count", """
            2 times name(1)
            join(0, 1, 1) = 0
            law "way 7 a=0;%shabit 5 a=1" = 0
            goes(0, 1) = 7
            habit(0, 0) = 0
            habit(1, 0) = 5
            """.formatted("steps 1;".repeat(8)));
        fault("1 with ; between: none ahead", ";paper 1", 0);
        fault("1 with ; between: none behind", "paper 1;", 8);
        fault("1 with ; between: not two", "paper 1;;paper 1", 8);
        fault("1 with ; between: nothing else", "paper 1,paper 1", 7);
        fits("1 with ; between", "way 1 a=1;habit 1 a=1;paper 1;watch 1;steps 1");
    }

    private static void words() {
        for (String word : WORDS) {
            for (int i = 0; i < word.length(); i++) {
                fault("1 The FAULT: the end of THE TEXT, if it ends too early", word.substring(0, i), i);
                fault("1 The FAULT: within a word", word.substring(0, i) + "z" + word.substring(i + 1) + " 1", i);
                fault("1 The FAULT: words are small letters",
                    word.substring(0, i) + word.substring(i, i + 1).toUpperCase() + word.substring(i + 1) + " 1", i);
                fault("1 The FAULT: ahead of the second clause", "paper 1;" + word.substring(0, i) + "!", 8 + i);
            }
            fault("1 The FAULT: a word and no more", word, word.length());
            fault("1 The FAULT: a word with a sign more", word + "s 1", word.length());
        }
        fault("1 The FAULT: the place of the first byte, though more are wrong", "waz?;;", 2);
        fault("1 The FAULT: watch and way begin alike", "wath 1", 3);
        fault("1 The FAULT: watch and way begin alike", "wayc 1", 3);
    }

    private static void blanks() {
        for (String word : WORDS) {
            int end = word.length();
            fault("1 one blank ahead of each part: not none", word + "1", end);
            fault("1 one blank ahead of each part: not two", word + "  1", end + 1);
            fault("1 one blank ahead of each part: no other sign", word + "\t1", end);
            fault("1 one blank ahead of each part: none ahead of the word", " " + word + " 1", 0);
        }
        for (String word : new String[] {"way", "habit"}) {
            int end = word.length() + 2;
            fault("1 one blank ahead of E: not none", word + " 1a=1", end);
            fault("1 one blank ahead of E: not two", word + " 1  a=1", end + 1);
            fault("1 no blank behind E", word + " 1 a=1 ", end + 4);
        }
        fault("1 no blank within a TEST", "way 1 a =1", 7);
        fault("1 no blank within a TEST", "way 1 a= 1", 8);
        fault("1 no blank ahead of |", "way 1 a=1 |a=1", 9);
        fault("1 no blank behind |", "way 1 a=1| a=1", 10);
        fault("1 no blank ahead of &", "way 1 a=1 &a=1", 9);
        fault("1 no blank behind &", "way 1 a=1& a=1", 10);
        fault("1 no blank behind (", "way 1 ( a=1)", 7);
        fault("1 no blank ahead of )", "way 1 (a=1 )", 10);
        fault("1 no blank behind !", "way 1 ! a=1", 7);
        fault("1 no blank ahead of ;", "paper 1 ;paper 1", 7);
        fault("1 no blank behind ;", "paper 1; paper 1", 8);
    }

    private static void digitsOfParts() {
        for (String word : WORDS) {
            boolean asks = word.equals("way") || word.equals("habit");
            String rest = asks ? " a=1" : "";
            int at = word.length() + 1;
            fault("1 n 1 to 3 digits: none", word + " ", at);
            fault("1 n 1 to 3 digits: none ahead of the next part", word + " " + rest, at);
            fault("1 n 1 to 3 digits: no sign but digits", word + " x" + rest, at);
            fault("1 n 1 to 3 digits: no minus", word + " -1" + rest, at);
            fault("1 n 1 to 3 digits: what comes ahead of 0", word + " /" + rest, at);
            fault("1 n 1 to 3 digits: what comes behind 9", word + " :" + rest, at);
            fits("1 n 1 to 3 digits", word + " 0" + rest, word + " 9" + rest, word + " 10" + rest, word + " 99" + rest,
                word + " 100" + rest, word + " 999" + rest, word + " 000" + rest, word + " 007" + rest);
            fault("1 n 1 to 3 digits: a fourth", word + " 1000" + rest, at + 3);
            fault("1 n 1 to 3 digits: a fourth", word + " 0000" + rest, at + 3);
        }
        edge("1 n 1 to 3 digits: what they tell", """
            2 times name(1)
            join(0, 1, 1) = 0
            law "way 9 a=0;way 0 a=1" = 0
            goes(0, 1) = 9
            goes(1, 0) = 0
            law "way 90 a=0;way 10 a=1" = 1
            goes(0, 1) = 90
            goes(1, 0) = 10
            law "way 987 a=0;way 007 a=1" = 2
            goes(0, 1) = 987
            goes(1, 0) = 7
            """);
    }

    private static void partsOfWords() {
        fault("1 way n E: not without E", "way 1", 5);
        fault("1 way n E: not without E", "way 1 ", 6);
        fault("1 way n E: not without E", "way 1;paper 1", 5);
        fault("1 habit n E: not without E", "habit 1", 7);
        fault("1 habit n E: not without E", "habit 1 ", 8);
        fault("1 habit n E: not without E", "habit 1;paper 1", 7);
        fault("1 paper n: no E", "paper 1 a=1", 7);
        fault("1 watch n: no E", "watch 1 a=1", 7);
        fault("1 steps n: no E", "steps 1 a=1", 7);
        fault("1 way n E: one E", "way 1 a=1 a=1", 9);
        fault("1 paper n: one n", "paper 1 1", 7);
    }

    private static void eitherAndAll() {
        fits("1 E: T or T|E. T: F or F&T", "way 1 a=1|a=1", "way 1 a=1&a=1", "way 1 a=1|a=1&a=1|a=1",
            "habit 1 a=1&a=1|a=1&a=1", "way 1 a=1|a=1|a=1|a=1|a=1|a=1|a=1|a=1", "way 1 a=1&a=1&a=1&a=1&a=1&a=1&a=1");
        fault("1 E: T|E: nothing behind |", "way 1 a=1|", 10);
        fault("1 E: T|E: nothing ahead of |", "way 1 |a=1", 6);
        fault("1 E: T|E: two |", "way 1 a=1||a=1", 10);
        fault("1 T: F&T: nothing behind &", "way 1 a=1&", 10);
        fault("1 T: F&T: nothing ahead of &", "way 1 &a=1", 6);
        fault("1 T: F&T: two &", "way 1 a=1&&a=1", 10);
        fault("1 T: F&T: | behind &", "way 1 a=1&|a=1", 10);
        fault("1 E: T|E: & behind |", "way 1 a=1|&a=1", 10);
        fault("1 nothing between two F", "way 1 a=1a=1", 9);
        fault("1 nothing between two F", "way 1 a=1(a=1)", 9);
        fault("1 nothing between two F", "way 1 a=1!a=1", 9);
        fault("1 nothing between two F", "way 1 (a=1)(a=1)", 11);
        fault("1 E ends with its clause", "way 1 a=1|;paper 1", 10);
    }

    private static void tests() {
        for (char letter : "abslf".toCharArray()) {
            fits("1 a TEST: a letter, < or = or >, a number", "way 1 " + letter + "<1", "way 1 " + letter + "=1",
                "way 1 " + letter + ">1", "habit 1 " + letter + "<1", "habit 1 " + letter + "=1",
                "habit 1 " + letter + ">1");
        }
        for (char letter : "cdegkmrtz0ABSLF`\u00e1".toCharArray()) {
            fault("1 any of a b s l f, no other", "way 1 " + letter + "=1", 6);
            fault("1 any of a b s l f, no other", "habit 1 " + letter + "=1", 8);
        }
        for (char sign : ";?!-~ 1a&".toCharArray()) {
            fault("1 < or = or >, no other", "way 1 a" + sign + "1", 7);
        }
        fault("1 < or = or >, one of them", "way 1 a<=1", 8);
        fault("1 < or = or >, one of them", "way 1 a==1", 8);
        fault("1 < or = or >, one of them", "way 1 a<>1", 8);
        fault("1 a TEST ends too early", "way 1 a", 7);
        fault("1 a TEST has one letter", "way 1 aa=1", 7);
        fault("1 a TEST begins with its letter", "way 1 1=a", 6);
        fault("1 a TEST begins with its letter", "way 1 =1", 6);
    }

    private static void digitsOfTests() {
        fault("1 a number (1 or 2 digits): none", "way 1 a=", 8);
        fault("1 a number (1 or 2 digits): none", "way 1 a=&a=1", 8);
        fault("1 a number (1 or 2 digits): no letter", "way 1 a=b", 8);
        fault("1 a number (1 or 2 digits): no minus", "way 1 a=-1", 8);
        fault("1 a number (1 or 2 digits): what comes ahead of 0", "way 1 a=/", 8);
        fault("1 a number (1 or 2 digits): what comes behind 9", "way 1 a=:", 8);
        fits("1 a number (1 or 2 digits)", "way 1 a=0", "way 1 a=9", "way 1 a=00", "way 1 a=10", "way 1 a=99");
        fault("1 a number (1 or 2 digits): a third", "way 1 a=100", 10);
        fault("1 a number (1 or 2 digits): a third", "way 1 a=000", 10);
        edge("1 a number (1 or 2 digits): what they tell", """
            name(12) = 0
            name(1) = 1
            law "habit 1 l=12;habit 2 l<12;habit 4 l>11;habit 8 l=01;habit 16 l<99;habit 32 l>99" = 0
            habit(0, 0) = 21
            habit(1, 0) = 26
            """);
    }

    private static void brackets() {
        fits("1 F: !F, (E), or a TEST", "way 1 !a=1", "way 1 (a=1)", "way 1 !(a=1)", "way 1 (!a=1)", "way 1 !!a=1",
            "way 1 (a=1|a=1&a=1)", "way 1 (a=1)|(a=1)&!a=1");
        fault("1 (E): nothing within", "way 1 ()", 7);
        fault("1 (E): not closed", "way 1 (a=1", 10);
        fault("1 (E): not closed within its clause", "way 1 (a=1;paper 1", 10);
        fault("1 (E): not opened", "way 1 a=1)", 9);
        fault("1 (E): closed twice", "way 1 (a=1))", 11);
        fault("1 (E): closed too early", "way 1 (a=1|)", 11);
        fault("1 (E): closed too early", "way 1 (a=1&)", 11);
        fault("1 (E): closed at once", "way 1 )", 6);
        fault("1 !F: nothing behind", "way 1 !", 7);
        fault("1 !F: nothing behind", "way 1 (!)", 8);
        fault("1 !F: no | behind", "way 1 !|a=1", 7);
    }

    private static String closed(String signs) {
        return signs + "a=1" + ")".repeat((int) signs.chars().filter(c -> c == '(').count());
    }

    private static void fourOthers() {
        for (int which = 0; which < 16; which++) {
            StringBuilder four = new StringBuilder();
            for (int i = 0; i < 4; i++) {
                four.append((which >> i & 1) == 0 ? '(' : '!');
            }
            String text = closed(four.toString());
            fits("1 A ( or ! within 3 others is one", "way 1 " + text, "habit 1 a=1|" + text + "&a=1",
                "way 1 " + text + "|" + text);
            fault("1 A ( within 4 others is none", "way 1 " + closed(four + "("), 10);
            fault("1 A ! within 4 others is none", "way 1 " + closed(four + "!"), 10);
            fault("1 A ! within 4 others is none, in the second clause", "paper 1;way 1 " + closed(four + "!"), 18);
        }
        fits("1 A ( or ! behind another one is not within it", "way 1 !a=1&!a=1&!a=1&!a=1&!a=1&!a=1",
            "way 1 (a=1)|(a=1)|(a=1)|(a=1)|(a=1)|(a=1)", "way 1 (((a=1&(b=1)&!b=1|(b=1))))",
            "way 1 ((((a=1))));way 1 ((((a=1))))", "way 1 !!!!a=1;habit 1 !!!!a=1");
        fault("1 A ! within 4 others, behind a fourth that is closed", "way 1 (((a=1&(b=1)&!!b=1)))", 20);
        fault("1 A ( within 4 others, behind a fourth that is closed", "way 1 !(!(a=1)|!((b=1)))", 17);
    }

    /** A text of 100 bytes: tests joined by &, and behind them its end. */
    private static String hundred(String end) {
        int left = 94 - end.length();
        int longer = left % 4;
        String text = "way 1 " + "a=01&".repeat(longer) + "a=1&".repeat((left - 5 * longer) / 4) + end;
        due.is("bytes of " + text, text.length(), 100);
        return text;
    }

    private static void textOfHundred() {
        String full = "way 1 a=01&a=01&a=01" + "&a=1".repeat(20);
        due.is("a text of 100 bytes", full.length(), 100);
        fits("1 THE TEXT (bytes, 100 at most): all of them are read", full);
        fault("1 The FAULT: the end of 100 bytes", full.substring(0, 96) + "&!a=", 100);
        fault("1 The FAULT: the last of 100 bytes", full.substring(0, 99) + "x", 99);
        String[] unended = {"", "a", "a=", "!", "!!!!", "(", "(a=1", "((((a=1)))", "a=1|", "a=1|a>", "a=1;", "a=1;p",
            "a=1;wa", "a=1;way", "a=1;steps", "a=1;watch ", "a=1;way 1", "a=1;way 1 ", "a=1;habit 123 ", "a=1;paper 1;"};
        for (String end : unended) {
            fault("1 The FAULT: the end of 100 bytes", hundred(end), 100);
        }
        fits("1 THE TEXT (bytes, 100 at most): it ends at the last", hundred("a=1"), hundred("a=11"), hundred("(a=1)"),
            hundred("!(a=1)"), hundred("a=1;paper 1"), hundred("a=1;watch 123"), hundred("a=1;habit 1 a=1"));
        edge("1 THE TEXT: its last TEST counts", """
            2 times name(1)
            law "habit 1 %sa=1" = 0
            habit(0, 0) = 0
            habit(1, 0) = 1
            """.formatted("a>5|".repeat(22)));
    }

    private static void comparing() {
        edge("1 < or = or >, a number: a in habit", """
            3 times name(1)
            law "habit 1 a<1;habit 2 a=1;habit 4 a>1" = 0
            habit(0, 0) = 1
            habit(1, 0) = 2
            habit(2, 0) = 4
            """);
        edge("1 < or = or >, a number: below 0 and above 99 there is none", """
            2 times name(1)
            law "habit 1 a<0;habit 2 !a<0;habit 4 a=0|a<0;habit 8 a<0|a=0;habit 16 a>99;habit 32 a=99|b>0" = 0
            habit(0, 0) = 14
            habit(1, 0) = 2
            """);
        edge("1 in way (from a NAME a to a NAME b ..)", """
            3 times name(1)
            join(0, 1, 1) = 0
            join(1, 2, 1) = 0
            law "way 1 a<1;way 2 a=1;way 3 a>1" = 0
            goes(0, 1) = 1
            goes(1, 0) = 2
            goes(1, 2) = 2
            goes(2, 1) = 3
            law "way 1 b<1;way 2 b=1;way 3 b>1" = 1
            goes(0, 1) = 2
            goes(1, 0) = 1
            goes(1, 2) = 3
            goes(2, 1) = 2
            """);
        edge("1 .. JOINED by SORT s", """
            4 times name(1)
            join(0, 1, 1) = 0
            join(1, 2, 2) = 0
            join(2, 3, 3) = 0
            join(3, 0, 5) = 0
            law "way 1 s<2;way 2 s=2;way 3 s=3;way 4 s>4" = 0
            goes(0, 1) = 1
            goes(2, 1) = 2
            goes(2, 3) = 3
            goes(0, 3) = 4
            join(0, 3, 4) = 5
            goes(0, 3) = NEVER
            """);
        edge("1 a, b their numbers: those of the last", """
            8 times name(1)
            join(6, 7, 1) = 0
            law "way 1 a=6&b=7;way 2 a=7&b=6;habit 9 a=7" = 0
            goes(6, 7) = 1
            goes(7, 6) = 2
            habit(7, 0) = 9
            habit(6, 0) = 0
            """);
        edge("1 in habit .. l its LETTERS", """
            name(1) = 0
            name(6) = 1
            name(12) = 2
            law "habit 1 l<6;habit 2 l=6;habit 4 l>6;habit 8 l<12;habit 16 l=1" = 0
            habit(0, 0) = 25
            habit(1, 0) = 10
            habit(2, 0) = 4
            """);
        edge("1 in habit .. f the FRIDAY", """
            name(9) = 0
            law "habit 1 f<1;habit 2 f=1;habit 4 f>1;habit 8 f<8;habit 16 f=8;habit 32 f>7" = 0
            habit(0, 0) = 9
            habit(0, 1) = 10
            habit(0, 2) = 12
            habit(0, 7) = 12
            habit(0, 8) = 52
            """);
    }

    private static void binding() {
        edge("1 E: T|E. T: F&T: & binds closer than |", """
            3 times name(1)
            law "habit 1 a=0|a=1&f=1;habit 2 f=1&a=1|a=0;habit 4 (a=0|a=1)&f=1;habit 8 f=1&(a=1|a=0)" = 0
            habit(0, 0) = 3
            habit(1, 0) = 0
            habit(2, 0) = 0
            habit(0, 1) = 15
            habit(1, 1) = 15
            habit(2, 1) = 0
            """);
        edge("1 F: !F: ! binds closest", """
            2 times name(1)
            law "habit 1 !a=0&f=1;habit 2 !(a=0&f=1);habit 4 !a=0|f=1;habit 8 !(a=0|f=1);habit 16 !!a=0" = 0
            habit(0, 0) = 18
            habit(0, 1) = 20
            habit(1, 0) = 14
            habit(1, 1) = 7
            """);
        edge("1 E of three T, T of three F", """
            3 times name(1)
            law "habit 1 a=0|a=1|a=2;habit 2 a>9|a=9|a=2;habit 4 a<9&a>0&f=0;habit 8 a<9&a>0&f>0" = 0
            habit(0, 0) = 1
            habit(1, 0) = 5
            habit(2, 0) = 7
            habit(1, 1) = 9
            """);
    }

    private static void meansNothing() {
        edge("1 (0, where it means nothing): l and f in way", """
            name(5) = 0
            name(6) = 1
            join(0, 1, 2) = 0
            law "way 1 l>0|f>0;way 2 l=0&f=0" = 0
            goes(0, 1) = 2
            goes(1, 0) = 2
            law "way 1 l=0" = 1
            goes(1, 0) = 1
            law "way 1 f<1" = 2
            goes(1, 0) = 1
            law "way 1 l=5|l=6|l=2|l=1" = 3
            goes(0, 1) = NEVER
            goes(1, 0) = NEVER
            """);
        edge("1 (0, where it means nothing): b and s in habit", """
            name(5) = 0
            name(6) = 1
            join(0, 1, 2) = 0
            law "habit 1 b>0;habit 2 s>0;habit 4 b=0;habit 8 s=0" = 0
            habit(0, 0) = 12
            habit(1, 0) = 12
            habit(1, 8) = 12
            """);
    }

    private static void newest() {
        edge("1 The newest LAW holds, and nothing of the one before", """
            2 times name(1)
            join(0, 1, 1) = 0
            news(0, 0) = NEVER
            trade(0, 0, 0, 5, 5) = 0
            trade(0, 0, 0, 5, 5) = 1
            law "way 3 a<9;habit 60 a<9;paper 5;watch 3;steps 0" = 0
            goes(0, 1) = 3
            knows(1) = NEVER
            of(0, 5) = {0 1 2 3 4}
            law "way 4 a=0" = 1
            goes(0, 1) = 4
            goes(1, 0) = NEVER
            knows(1) = 4
            habit(0, 0) = 0
            of(0, 5) = {0 3 6}
            law "steps 1" = 2
            goes(0, 1) = NEVER
            """);
        edge("1 without one there are no CLAUSES", """
            2 times name(1)
            join(0, 1, 1) = 0
            news(0, 0) = NEVER
            goes(0, 1) = NEVER
            habit(0, 0) = 0
            trade(0, 0, 0, 99, 99) = 0
            trade(0, 0, 0, 99, 99) = 1
            of(0, 5) = {0 3 6}
            parted(998, 0) = 1
            parted(999, 0) = NEVER
            """);
    }

    private static void goesEdges() {
        edge("1 It GOES .. JOINED: not without joining", """
            3 times name(1)
            law "way 1 s=0|s<9" = 0
            goes(0, 1) = NEVER
            join(0, 1, 5) = 0
            goes(0, 1) = 1
            goes(0, 2) = NEVER
            goes(2, 1) = NEVER
            """);
        edge("1 in the n HOURS of the first way whose E holds; else not at all", """
            2 times name(1)
            join(0, 1, 3) = 0
            law "way 9 s=4;way 8 s=3&a=0;way 1 s=3&a=0;way 7 b=7" = 0
            goes(0, 1) = 8
            goes(1, 0) = NEVER
            law "habit 2 s=0;way 6 s=3;way 5 s=3" = 1
            goes(0, 1) = 6
            goes(1, 0) = 6
            """);
        edge("1 It GOES .. of the first way: habit is no way", """
            2 times name(1)
            join(0, 1, 3) = 0
            law "habit 7 a<9" = 0
            goes(0, 1) = NEVER
            law "habit 7 a<9;way 3 a<9" = 1
            goes(0, 1) = 3
            law "paper 7;watch 7;steps 7" = 2
            goes(0, 1) = NEVER
            habit(0, 0) = 0
            """);
        edge("1 the n HOURS: the least and the most", """
            2 times name(1)
            join(0, 1, 3) = 0
            law "way 0 a=0;way 999 a=1" = 0
            goes(0, 1) = 0
            goes(1, 0) = 999
            """);
    }

    private static void goesRefusals() {
        edge("7 goes: NONE", """
            goes(0, 1) = NONE
            goes(0, 0) = NONE
            3 times name(1)
            goes(-1, 0) = NONE
            goes(0, -1) = NONE
            goes(3, 0) = NONE
            goes(0, 3) = NONE
            goes(MIN, 0) = NONE
            goes(0, MAX) = NONE
            goes(2, 0) = NEVER
            5 times name(1)
            goes(7, 0) = NEVER
            goes(0, 7) = NEVER
            goes(8, 0) = NONE
            goes(0, 8) = NONE
            """);
        edge("7 goes: BAD: one NAME", """
            8 times name(1)
            goes(0, 0) = BAD
            goes(7, 7) = BAD
            """);
        edge("7 goes: NONE ahead of BAD", """
            3 times name(1)
            goes(3, 3) = NONE
            goes(-1, -1) = NONE
            """);
    }

    private static void habitEdges() {
        edge("1 HABIT .. 100 at most", """
            4 times name(1)
            law "habit 60 a<9;habit 39 a=0;habit 40 a=1;habit 41 a=2;habit 999 a=3" = 0
            habit(0, 0) = 99
            habit(1, 0) = 100
            habit(2, 0) = 100
            habit(3, 0) = 100
            """);
        edge("1 HABIT: one n alone", """
            4 times name(1)
            law "habit 99 a=0;habit 100 a=1;habit 101 a=2;habit 0 a=3" = 0
            habit(0, 0) = 99
            habit(1, 0) = 100
            habit(2, 0) = 100
            habit(3, 0) = 0
            """);
        edge("1 HABIT: the n of all habit whose E holds, of no way", """
            2 times name(1)
            law "way 50 a<9;habit 1 a<9;habit 2 a=1;habit 4 a<9;paper 9" = 0
            habit(0, 0) = 5
            habit(1, 0) = 7
            """);
        edge("1 HABIT: none whose E holds", """
            name(1) = 0
            law "habit 5 a=1" = 0
            habit(0, 0) = 0
            """);
    }

    private static void habitRefusals() {
        edge("8 habit: NONE: name", """
            habit(0, 0) = NONE
            8 times name(1)
            habit(-1, 0) = NONE
            habit(8, 0) = NONE
            habit(MIN, 0) = NONE
            habit(MAX, 0) = NONE
            habit(7, 0) = 0
            """);
        edge("8 habit: NONE: .. friday (0 .. 8)", """
            name(1) = 0
            law "habit 7 f=0;habit 9 f=8" = 0
            habit(0, -1) = NONE
            habit(0, 0) = 7
            habit(0, 8) = 9
            habit(0, 9) = NONE
            habit(0, MIN) = NONE
            habit(0, MAX) = NONE
            """);
    }
}
