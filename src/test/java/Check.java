import java.util.function.IntToLongFunction;

/** What the tests share: answers that are due, and texts told sign by sign. */
final class Check {
    private String sentence = "";
    private int sentences;
    private int asked;
    private int wrong;

    /** The sentence of the document that the answers behind it test, with its promise's number. */
    void says(String words) {
        sentence = words + " -- ";
        sentences++;
    }

    void due(String call, long got, long want) {
        asked++;
        if (got != want) {
            wrong++;
            System.out.println(sentence + call + " answered " + got + ", due is " + want);
        }
    }

    void due(String call, boolean got, boolean want) {
        due(call, got ? 1 : 0, want ? 1 : 0);
    }

    /** The whole ROW, through count(10) and row(). */
    void dueRow(String call, StruckColours x, long... want) {
        due(call + ": numbers of the row", x.count(10), want.length);
        for (int i = 0; i < want.length && i < x.count(10); i++) {
            due(call + ": row(" + i + ")", x.row(i), want[i]);
        }
        dueThrows(call + ": row behind its end", () -> x.row(want.length));
    }

    void dueThrows(String call, Runnable run) {
        asked++;
        try {
            run.run();
        } catch (java.util.NoSuchElementException e) {
            return;
        }
        wrong++;
        System.out.println(sentence + call + " threw no NoSuchElementException");
    }

    /** A call takes the numbers low .. high: these two are not refused, those about them and the farthest ones are. */
    void dueLimits(String call, IntToLongFunction of, int low, int high) {
        for (int v : new int[] {low, high}) {
            due(call + " with " + v + " is taken", of.applyAsLong(v) >= 0, true);
        }
        dueRefused(call, of, low - 1, high + 1, Integer.MIN_VALUE, Integer.MAX_VALUE);
    }

    void dueRefused(String call, IntToLongFunction of, int... values) {
        for (int v : values) {
            due(call + " with " + v, of.applyAsLong(v), StruckColours.NONE);
        }
    }

    /** Puts a text, whatever was there. */
    static void tell(StruckColours x, String text) {
        x.end(0);
        for (int i = 0; i < text.length(); i += 4) {
            int v = 0;
            for (int k = 0; k < 4; k++) {
                v = v << 8 | (i + k < text.length() ? text.charAt(i + k) & 255 : 0);
            }
            x.sign(v);
        }
        x.end(text.length());
    }

    static StruckColours sea(String ships) {
        StruckColours x = new StruckColours();
        tell(x, ships);
        x.ships();
        return x;
    }

    /** Ships and the rule s, by which who has more strength wins. */
    static StruckColours strongSea(String ships, int take) {
        StruckColours x = sea(ships);
        rule(x, "s");
        x.take(take);
        return x;
    }

    /** SIDES a .. d of a ship's flag as the digits of a number in the base 100. */
    static long flag(StruckColours x, int ship) {
        long flag = 0;
        for (int what = 3; what <= 6; what++) {
            flag = 100 * flag + x.ship(ship, what);
        }
        return flag;
    }

    static int rule(StruckColours x, String text) {
        tell(x, text);
        return x.rule();
    }

    static int ships(StruckColours x, String text) {
        tell(x, text);
        return x.ships();
    }

    static int war(StruckColours x, String text) {
        tell(x, text);
        return x.war();
    }

    static int law(StruckColours x, String text) {
        tell(x, text);
        return x.law();
    }

    void ends() {
        System.out.println((sentences > 0 ? sentences + " sentences, " : "") + asked + " answers, " + wrong + " not as due");
        if (wrong != 0) {
            System.exit(1);
        }
    }
}
