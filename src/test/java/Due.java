/** What the tests share: comparing answers with those that are due, and feeding laws. */
final class Due {
    private final String test;
    private int wrong = 0;

    Due(String test) {
        this.test = test;
    }

    void is(String call, long got, long want) {
        if (got != want) {
            wrong++;
            System.out.println(test + ": " + call + " answered " + got + ", due is " + want);
        }
    }

    void holds(String what, boolean so) {
        if (!so) {
            wrong++;
            System.out.println(test + ": " + what);
        }
    }

    void end() {
        System.out.println(test + ": " + (wrong == 0 ? "all as due" : wrong + " not as due"));
        if (wrong != 0) {
            System.exit(1);
        }
    }

    /** Feeds a text, as many bytes a call as there are, and makes it a law. */
    static int law(TuesdayKnew x, String text) {
        feed(x, text);
        return x.law();
    }

    static int feed(TuesdayKnew x, String text) {
        int length = x.count(4);
        for (int i = 0; i < text.length(); i += 4) {
            int n = Math.min(4, text.length() - i);
            int bytes = 0;
            for (int k = 0; k < n; k++) {
                bytes = bytes << 8 | text.charAt(i + k);
            }
            length = x.feed(bytes, n);
        }
        return length;
    }

    /** A new object with names of so many letters. */
    static TuesdayKnew names(int... letters) {
        TuesdayKnew x = new TuesdayKnew();
        for (int n : letters) {
            x.name(n);
        }
        return x;
    }
}
