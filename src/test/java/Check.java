/** What the tests share: answers that are due, and texts told sign by sign. */
final class Check {
    private int asked;
    private int wrong;

    void due(String call, long got, long want) {
        asked++;
        if (got != want) {
            wrong++;
            System.out.println(call + " answered " + got + ", due is " + want);
        }
    }

    void due(String call, boolean got, boolean want) {
        due(call, got ? 1 : 0, want ? 1 : 0);
    }

    /** The whole ROW, through count(10) and row(). */
    void dueRow(String call, StruckColours x, long... want) {
        due(call + ": numbers of the row", x.count(10), want.length);
        for (int i = 0; i < want.length && i < x.count(10); i++) {
            due(call + ": row(" + i + ")", x.row(i), want[i]);
        }
        dueThrows(call + ": row behind its end", () -> x.row(want.length));
    }

    void dueThrows(String call, Runnable run) {
        asked++;
        try {
            run.run();
        } catch (java.util.NoSuchElementException e) {
            return;
        }
        wrong++;
        System.out.println(call + " threw no NoSuchElementException");
    }

    /** Puts a text, whatever was there. */
    static void tell(StruckColours x, String text) {
        x.end(0);
        for (int i = 0; i < text.length(); i += 4) {
            int v = 0;
            for (int k = 0; k < 4; k++) {
                v = v << 8 | (i + k < text.length() ? text.charAt(i + k) & 255 : 0);
            }
            x.sign(v);
        }
        x.end(text.length());
    }

    static StruckColours sea(String ships) {
        StruckColours x = new StruckColours();
        tell(x, ships);
        x.ships();
        return x;
    }

    static int rule(StruckColours x, String text) {
        tell(x, text);
        return x.rule();
    }

    static int ships(StruckColours x, String text) {
        tell(x, text);
        return x.ships();
    }

    static int war(StruckColours x, String text) {
        tell(x, text);
        return x.war();
    }

    static int law(StruckColours x, String text) {
        tell(x, text);
        return x.law();
    }

    void ends() {
        System.out.println(asked + " answers, " + wrong + " not as due");
        if (wrong != 0) {
            System.exit(1);
        }
    }
}
