import java.math.BigInteger;

/** Each sentence of promises 35 to 51 that names a boundary case. */
public final class NotesEdgesTest {
    private static final Check CHECK = new Check();
    private static final String FOUR = "a5;b3;c4;a2";

    public static void main(String[] args) {
        seen();
        fits();
        looks();
        told();
        laws();
        asks();
        treaty();
        allTreaties();
        series();
        allSeries();
        rests();
        allRests();
        law();
        years();
        draws();
        keep();
        again();
        count();
        row();
        CHECK.ends();
    }

    private static void dueSeen(int what, int low, int high) {
        CHECK.dueLimits("seen(" + what + ", v)", v -> new StruckColours().seen(what, v), low, high);
    }

    private static void seen() {
        CHECK.says("35: what 0: SIDE is v (0 .. 3)");
        dueSeen(0, 0, 3);
        CHECK.says("35: 1: STRENGTH is v (0 .. 9) or more");
        dueSeen(1, 0, 9);
        CHECK.says("35: 2: there are PARTS of SIDE v (0 .. 3) on her flag");
        dueSeen(2, 0, 3);
        CHECK.says("35: 3: she WON v (0 .. 99) or more");
        dueSeen(3, 0, 99);
        CHECK.says("35: 4: she LOST once (1) or never (0)");
        dueSeen(4, 0, 1);

        CHECK.says("35: Refused: others (another what)");
        CHECK.dueLimits("seen(what, 0)", what -> new StruckColours().seen(what, 0), 0, 4);

        CHECK.says("35: how many such. Refused: 12");
        StruckColours x = new StruckColours();
        for (int i = 1; i <= 12; i++) {
            CHECK.due("seen()", x.seen(i % 5, 0), i);
        }
        CHECK.due("a thirteenth", x.seen(0, 0), -1);
        CHECK.due("count(7)", x.count(7), 12);

        CHECK.says("36: It is forgotten: how many there were");
        CHECK.due("twelve", x.forget(), 12);
        CHECK.due("count(7)", x.count(7), 0);
        CHECK.due("none", x.forget(), 0);
        CHECK.due("then", x.seen(0, 0), 1);
    }

    private static void dueFits(StruckColours x, int what, int v, int bits) {
        x.forget();
        x.seen(what, v);
        CHECK.due("fits() of " + what + ", " + v, x.fits(), bits);
        CHECK.dueRow("fits()", x, Integer.bitCount(bits));
    }

    private static void fits() {
        CHECK.says("37: SHIPS (bits) that fit all that was seen now; the ROW: how many");
        StruckColours x = Check.strongSea(FOUR, 1);
        CHECK.due("nothing was seen", x.fits(), 15);
        CHECK.dueRow("nothing was seen", x, 4);
        StruckColours none = new StruckColours();
        CHECK.due("without SHIPS", none.fits(), 0);
        CHECK.dueRow("without SHIPS", none, 0);
        x.fight(0, 1);
        x.fight(0, 1);
        x.fight(2, 3);
        // STRENGTH 5 1 4 1, WON 2 0 1 0, LOST 0 2 0 1.
        dueFits(x, 0, 0, 9);
        dueFits(x, 0, 3, 0);

        CHECK.says("37: STRENGTH is v or more");
        dueFits(x, 1, 0, 15);
        dueFits(x, 1, 1, 15);
        dueFits(x, 1, 2, 5);
        dueFits(x, 1, 4, 5);
        dueFits(x, 1, 5, 1);
        dueFits(x, 1, 6, 0);

        CHECK.says("37: there are PARTS of SIDE v on her flag");
        dueFits(x, 2, 0, 13);
        dueFits(x, 2, 1, 3);
        dueFits(x, 2, 3, 0);

        CHECK.says("37: she WON v or more");
        dueFits(x, 3, 0, 15);
        dueFits(x, 3, 1, 5);
        dueFits(x, 3, 2, 1);
        dueFits(x, 3, 3, 0);
        dueFits(x, 3, 99, 0);

        CHECK.says("37: she LOST once (1) or never (0)");
        dueFits(x, 4, 0, 5);
        dueFits(x, 4, 1, 10);

        CHECK.says("37: all that was seen, now");
        x.forget();
        x.seen(0, 0);
        x.seen(1, 5);
        CHECK.due("both", x.fits(), 1);
        x.sheet(3, 0, 0, 0);
        CHECK.due("none now", x.fits(), 0);
        CHECK.dueRow("none now", x, 0);
        x.days(5);
        CHECK.due("again", x.fits(), 1);
    }

    private static void looks() {
        CHECK.says("38: -2: none fits");
        CHECK.due("without SHIPS", new StruckColours().looks(), -2);
        StruckColours x = Check.sea("a1;b1;a1;c1");
        x.seen(0, 3);
        CHECK.due("none fits", x.looks(), -2);

        CHECK.says("38: the fewest such SHIPS are left at most; of equal ones the first; the ROW: how many at most");
        x.forget();
        CHECK.due("two of four", x.looks(), 0);
        CHECK.dueRow("two of four", x, 2);
        StruckColours one = Check.sea("d1");
        CHECK.due("one is left whatever is seen", one.looks(), 0);
        CHECK.dueRow("one is left", one, 1);
        StruckColours six = Check.sea("a1;a1;a1;a1;a1;a1");
        CHECK.due("six alike", six.looks(), 0);
        CHECK.dueRow("six alike", six, 6);
        StruckColours y = Check.sea("a1;a1;a1");
        CHECK.due("all alike", y.looks(), 0);
        CHECK.dueRow("all alike", y, 3);
        y.sews(1, 3, 1);
        CHECK.due("one has some of d", y.looks(), 3);
        CHECK.dueRow("one has some of d", y, 2);
        y.sews(2, 2, 1);
        CHECK.due("another one has some of c: as good", y.looks(), 2);
        CHECK.dueRow("as good", y, 2);
        y.seen(2, 3);
        CHECK.due("of those that fit", y.looks(), 0);
        CHECK.dueRow("of those that fit", y, 1);
    }

    private static void told() {
        CHECK.says("39: o (0 .. 12) PARTS of her own");
        CHECK.dueLimits("told(o, 0, 0)", o -> new StruckColours().told(o, 0, 0), 0, 12);

        CHECK.says("39: e (0 .. 12 less o) of another SIDE");
        for (int o = 0; o <= 12; o++) {
            int own = o;
            CHECK.dueLimits("told(" + o + ", e, 1)", e -> new StruckColours().told(own, e, 1), 0, 12 - o);
        }

        CHECK.says("39: she went over (is 1) or not (0)");
        CHECK.dueLimits("told(1, 1, is)", is -> new StruckColours().told(1, 1, is), 0, 1);

        CHECK.says("39: how many such. Refused: 12");
        StruckColours x = new StruckColours();
        for (int i = 1; i <= 12; i++) {
            CHECK.due("told()", x.told(12, 0, 0), i);
        }
        CHECK.due("a thirteenth", x.told(12, 0, 0), -1);
        CHECK.due("count(8)", x.count(8), 12);

        CHECK.says("40: It is denied: how many there were");
        CHECK.due("twelve", x.deny(), 12);
        CHECK.due("count(8)", x.count(8), 0);
        CHECK.due("none", x.deny(), 0);
        CHECK.due("then", x.told(0, 0, 1), 1);
    }

    private static void dueLaws(int o, int e, int is, int many, long... least) {
        StruckColours x = new StruckColours();
        x.evens();
        x.told(o, e, is);
        CHECK.due("laws() of " + o + ", " + e + ", " + is, x.laws(), many);
        CHECK.dueRow("laws() of " + o + ", " + e + ", " + is, x, least);
    }

    private static void laws() {
        CHECK.says("41: Laws (t, d: 169 of them); the ROW: the least");
        StruckColours x = new StruckColours();
        CHECK.due("nothing was told", x.laws(), 169);
        CHECK.dueRow("nothing was told", x, 0, 0);

        CHECK.says("41: she does, if there are fewer than t PARTS of her own, or of another SIDE d more or above");
        // Over: t above o, or d up to e less o.
        dueLaws(0, 0, 1, 12 * 13 + 1, 0, 0);
        dueLaws(0, 0, 0, 12, 0, 1);
        dueLaws(0, 1, 0, 11, 0, 2);
        dueLaws(0, 11, 0, 1, 0, 12);
        dueLaws(0, 12, 1, 169, 0, 0);
        dueLaws(1, 0, 1, 11 * 13, 2, 0);
        dueLaws(1, 0, 0, 2 * 13, 0, 0);
        dueLaws(11, 0, 1, 13, 12, 0);
        dueLaws(12, 0, 0, 169, 0, 0);
        dueLaws(6, 6, 0, 7 * 12, 0, 1);
        dueLaws(5, 7, 0, 6 * 10, 0, 3);
        dueLaws(7, 5, 0, 8 * 13, 0, 0);

        CHECK.says("41: nothing without");
        dueLaws(0, 12, 0, 0);
        dueLaws(12, 0, 1, 0);
    }

    private static void asks() {
        CHECK.says("42: -2: none fits");
        StruckColours x = new StruckColours();
        x.told(12, 0, 1);
        CHECK.due("asks()", x.asks(), -2);

        CHECK.says("42: the fewest such laws are left at most: 13 times o, and e, of equal ones the least");
        StruckColours y = new StruckColours();
        // By 6 and 6 seven times twelve don't, 85 do; none is better.
        CHECK.due("nothing was told", y.asks(), 13 * 6 + 6);
        CHECK.dueRow("nothing was told", y, 85);
        StruckColours z = new StruckColours();
        z.told(0, 11, 0);
        CHECK.due("one law is left: all are alike", z.asks(), 0);
        CHECK.dueRow("one law", z, 1);
        StruckColours first = new StruckColours();
        first.told(1, 0, 0);
        first.told(1, 1, 1);
        CHECK.due("the laws 0 0 and 1 0 are left, by no ship unlike", first.asks(), 0);
        CHECK.dueRow("the laws 0 0 and 1 0", first, 2);
        StruckColours two = new StruckColours();
        two.told(11, 0, 1);
        two.told(0, 12, 1);
        // t is 12, and d anything: by none can be told which; all are over but 12 and 0, which none is.
        CHECK.due("thirteen are left", two.asks(), 0);
        CHECK.dueRow("thirteen are left", two, 13);
    }

    private static void treaty() {
        CHECK.says("43: a and b (0 .. 30) clauses");
        CHECK.dueLimits("treaty(a, 0)", a -> new StruckColours().treaty(a, 0), 0, 30);
        CHECK.dueLimits("treaty(0, b)", b -> new StruckColours().treaty(0, b), 0, 30);

        CHECK.says("43: (from the first treaty, from the second; nothing, if he loses)");
        StruckColours x = new StruckColours();
        x.evens();
        CHECK.due("no clauses are left to strike", x.treaty(0, 0), 0);
        CHECK.dueRow("no clauses", x);
        CHECK.due("the last one", x.treaty(0, 1), 1);
        CHECK.dueRow("the last one", x, 0, 1);
        CHECK.due("one of each", x.treaty(1, 1), 1);
        CHECK.dueRow("one of each", x, 1, 1);
        CHECK.due("all of one", x.treaty(30, 0), 1);
        CHECK.dueRow("all of one", x, 30, 0);
        CHECK.due("one and two", x.treaty(1, 2), 0);
        CHECK.dueRow("one and two", x);
    }

    /** Whether the first one wins, told by all that he may strike out. */
    private static boolean[][] wonTreaties() {
        boolean[][] won = new boolean[31][31];
        for (int a = 0; a <= 30; a++) {
            for (int b = 0; b <= 30; b++) {
                for (int n = 1; n <= 30; n++) {
                    won[a][b] |= n <= a && !won[a - n][b];
                    won[a][b] |= n <= b && !won[a][b - n];
                    won[a][b] |= n <= a && n <= b && !won[a - n][b - n];
                }
            }
        }
        return won;
    }

    private static void allTreaties() {
        CHECK.says("43: strike out any many of one, or as many of both (one at least); the least move that wins");
        boolean[][] won = wonTreaties();
        for (int a = 0; a <= 30; a++) {
            for (int b = 0; b <= 30; b++) {
                StruckColours x = new StruckColours();
                CHECK.due("treaty(" + a + ", " + b + ")", x.treaty(a, b), won[a][b] ? 1 : 0);
                CHECK.dueRow("treaty(" + a + ", " + b + ")", x, leastMove(won, a, b));
            }
        }
    }

    private static long[] leastMove(boolean[][] won, int a, int b) {
        for (int first = 0; first <= a; first++) {
            for (int second = 0; second <= b; second++) {
                boolean may = first + second > 0 && (first == 0 || second == 0 || first == second);
                if (may && !won[a - first][b - second]) {
                    return new long[] {first, second};
                }
            }
        }
        return new long[0];
    }

    private static void series() {
        CHECK.says("44: p tenths (0 .. 10)");
        CHECK.dueLimits("series(1, 1, p)", p -> new StruckColours().series(1, 1, p), 0, 10);
        CHECK.says("44: k (1 .. 8) times");
        CHECK.dueLimits("series(k, 1, 1)", k -> new StruckColours().series(k, 1, 1), 1, 8);
        CHECK.says("44: m (1 .. 8) times");
        CHECK.dueLimits("series(1, m, 1)", m -> new StruckColours().series(1, m, 1), 1, 8);
    }

    /** How likely the first one gets there from here, by tenths of each fight, times ten by the fights that can be. */
    private static BigInteger upper(int k, int m, int p) {
        if (k == 0) {
            return BigInteger.TEN.pow(m);
        }
        if (m == 0) {
            return BigInteger.ZERO;
        }
        BigInteger won = upper(k - 1, m, p).multiply(BigInteger.valueOf(p));
        return won.add(upper(k, m - 1, p).multiply(BigInteger.valueOf(10 - p)));
    }

    private static void allSeries() {
        CHECK.says("44: how likely the first one gets there; the ROW: the fraction");
        for (int k = 1; k <= 8; k++) {
            for (int m = 1; m <= 8; m++) {
                for (int p = 0; p <= 10; p++) {
                    StruckColours x = new StruckColours();
                    BigInteger upper = upper(k, m, p);
                    BigInteger lower = BigInteger.TEN.pow(k + m);
                    BigInteger both = upper.gcd(lower);
                    CHECK.due("series", x.series(k, m, p), 0);
                    CHECK.dueRow("series(" + k + ", " + m + ", " + p + ")", x, upper.divide(both).longValueExact(),
                        lower.divide(both).longValueExact());
                }
            }
        }
    }

    private static void rests() {
        CHECK.says("45: NONE: another v (0 .. 20)");
        CHECK.dueLimits("rests", v -> new StruckColours().rests(v), 0, 20);

        CHECK.says("45: the least (nothing without)");
        StruckColours x = new StruckColours();
        x.evens();
        CHECK.due("none", x.rests(6), 0);
        CHECK.dueRow("none", x);
        CHECK.due("worth nothing", x.rests(0), 1);
        CHECK.dueRow("worth nothing", x, 0, 0);
        CHECK.due("both hoist all", x.rests(20), 1);
        CHECK.dueRow("both hoist all", x, 9, 9);
    }

    private static int has(int v, int mine, int yours) {
        int has = -mine;
        if (mine > yours) {
            has += v;
        }
        if (mine == yours) {
            has += v / 2;
        }
        if (mine >= yours + 3) {
            has -= 2;
        }
        return has;
    }

    private static void allRests() {
        CHECK.says("45: half (cut) if like; 3 yards more, or above: 2 more; neither would have more by another number alone");
        for (int v = 0; v <= 20; v++) {
            int many = 0;
            long[] least = {};
            for (int pair = 99; pair >= 0; pair--) {
                boolean rest = true;
                for (int n = 0; n <= 9; n++) {
                    rest &= has(v, n, pair % 10) <= has(v, pair / 10, pair % 10);
                    rest &= has(v, n, pair / 10) <= has(v, pair % 10, pair / 10);
                }
                if (rest) {
                    many++;
                    least = new long[] {pair / 10, pair % 10};
                }
            }
            StruckColours x = new StruckColours();
            CHECK.due("rests(" + v + ")", x.rests(v), many);
            CHECK.dueRow("rests(" + v + ")", x, least);
        }
    }

    private static void law() {
        CHECK.says("46: (an empty one: none)");
        StruckColours x = Check.strongSea(FOUR, 3);
        Check.rule(x, "-s");
        CHECK.due("law()", x.law(), 3);
        CHECK.dueRow("law()", x, 4, 1);

        CHECK.says("46: less by THE RULE (below 0, too)");
        Check.rule(x, "s");
        CHECK.due("-s", Check.law(x, "-s"), -3);
        CHECK.dueRow("-s", x, 1, 4);
        CHECK.due("nobody wins by it", Check.law(x, "1"), -4);
        CHECK.dueRow("nobody wins by it", x, 0, 4);
        CHECK.due("the same", Check.law(x, "s"), 0);
        CHECK.dueRow("the same", x, 4, 4);

        CHECK.says("46: -10000 - p: the sign at p can't stand there (as rule())");
        String[] bad = {"?", "s?", "s+", "s<o<e", "(((((s", "1000", "(s", "s+".repeat(19) + "s?", "s+".repeat(20),
            "s+".repeat(20) + "s", "-" + "s+".repeat(19) + "s+", "?" + "s+".repeat(39)};
        int[] places = {0, 1, 2, 3, 4, 3, 2, 39, 40, 40, 40, 0};
        for (int i = 0; i < bad.length; i++) {
            CHECK.due("law() of " + bad[i], Check.law(x, bad[i]), -10000 - places[i]);
            CHECK.due("THE TEXT is empty", x.count(11), 0);
        }
        CHECK.dueRow("the ROW stays", x, 4, 4);
        CHECK.due("THE RULE stays", x.force(0, 1), 1005);

        CHECK.says("46: pairs of SHIPS of unlike SIDES in which the lesser one would win");
        StruckColours none = new StruckColours();
        CHECK.due("without SHIPS", Check.law(none, "s"), 0);
        CHECK.dueRow("without SHIPS", none, 0, 0);
        StruckColours alike = Check.sea("a9;a1");
        CHECK.due("of one SIDE", Check.law(alike, "s"), 0);
        CHECK.dueRow("of one SIDE", alike, 0, 0);
        StruckColours six = Check.sea("a9;b8;a7;b6;a5;b4");
        CHECK.due("nine of fifteen", Check.law(six, "1"), -9);
        CHECK.dueRow("nine of fifteen", six, 0, 9);
    }

    private static void years() {
        CHECK.says("47: NONE: another n (1 .. 60)");
        CHECK.dueLimits("years", n -> Check.sea(FOUR).years(1, n), 1, 60);
        CHECK.due("without SHIPS", new StruckColours().years(1, 61), -1);

        CHECK.says("47: nothing, no DRAWS more, without SHIPS");
        for (int seed = -5; seed <= 5; seed++) {
            StruckColours none = new StruckColours();
            CHECK.due("years()", none.years(seed, 60), 0);
            CHECK.dueRow("years()", none, 0, 0);
        }
    }

    /** Each R behind another, as longs without a sign. */
    private static long after(long r) {
        return (r * 1103515245L + 12345L) & 0xFFFFFFFFL;
    }

    private static void draws() {
        CHECK.says("47: R = R times 1103515245 + 12345 (as ints), (R without sign, by 65536) % n");
        // One ship alone can't fight; what is told is how many days there were, and what was sewn in.
        int[] seeds = {0, 1, 2, 3, -1, -2, 7, 99, 12345, Integer.MAX_VALUE, Integer.MIN_VALUE, 1 << 16, -(1 << 16)};
        for (int seed : seeds) {
            for (int n = 1; n <= 60; n += n < 8 ? 1 : 13) {
                StruckColours x = Check.sea("a9");
                x.sheet(3, 0, 0, 0);
                StruckColours y = Check.sea("a9");
                y.sheet(3, 0, 0, 0);
                long r = seed & 0xFFFFFFFFL;
                for (int i = 0; i < n; i++) {
                    r = after(r);
                    int what = (int) (r / 65536 % 4);
                    if (what == 0) {
                        y.days(1);
                    } else {
                        r = after(r);
                        r = after(r);
                        if (what == 3) {
                            y.sews(0, (int) (r / 65536 % 4), 1);
                        }
                    }
                }
                CHECK.due("years(" + seed + ", " + n + ")", x.years(seed, n), y.count(3));
                CHECK.dueRow("years(" + seed + ", " + n + ")", x, y.count(4), 0);
            }
        }

        CHECK.says("47: a DRAW of SHIPS one, another one: fight() (if it can be): OVERS more in these");
        for (int seed : seeds) {
            StruckColours x = Check.strongSea("a9;b1;c5", 6);
            StruckColours y = Check.strongSea("a9;b1;c5", 6);
            x.sews(2, 3, 7);
            y.sews(2, 3, 7);
            long r = seed & 0xFFFFFFFFL;
            for (int i = 0; i < 60; i++) {
                r = after(r);
                int what = (int) (r / 65536 % 4);
                if (what == 0) {
                    y.days(1);
                    continue;
                }
                r = after(r);
                int one = (int) (r / 65536 % 3);
                r = after(r);
                if (what == 3) {
                    y.sews(one, (int) (r / 65536 % 4), 1);
                } else {
                    y.fight(one, (int) (r / 65536 % 3));
                }
            }
            CHECK.due("years(" + seed + ", 60)", x.years(seed, 60), y.count(3) - 1);
            CHECK.dueRow("years(" + seed + ", 60)", x, y.count(4), y.count(5));
        }
    }

    private static void keep() {
        CHECK.says("48: under a number 0 .. 1: true. Refused: others");
        StruckColours x = Check.sea("a5;b3");
        for (int i : new int[] {-1, 2, Integer.MIN_VALUE, Integer.MAX_VALUE, 32, 33}) {
            CHECK.due("keep(" + i + ")", x.keep(i), false);
            CHECK.due("again(" + i + ")", x.again(i), false);
        }
        CHECK.due("nothing was kept", x.again(0) || x.again(1), false);
        CHECK.due("keep(0)", x.keep(0), true);
        CHECK.due("keep(1)", x.keep(1), true);
        CHECK.due("without SHIPS", new StruckColours().keep(1), true);

        CHECK.says("48: What undo() brings back is kept");
        StruckColours y = Check.strongSea("a9;b3", 6);
        y.sews(0, 1, 1);
        y.days(1);
        y.sews(0, 1, 3);
        y.keep(0);
        y.fight(0, 1);
        y.keep(1);
        y.days(9);
        y.take(1);
        CHECK.due("again(0)", y.again(0), true);
        CHECK.due("flag", Check.flag(y, 0), 9030000);
        CHECK.due("SIDE, DAY", 10 * y.ship(0, 2) + y.count(2), 1);
        CHECK.due("STRENGTH, WON, LOST, OVERS", 1000 * y.count(4) + 100 * y.count(5) + 10 * y.count(6) + y.count(3), 12000);
        CHECK.due("TAKE is not", y.count(1), 1);
        CHECK.due("again(1)", y.again(1), true);
        CHECK.due("flag", Check.flag(y, 0), 3090000);
        CHECK.due("SIDE, DAY", 10 * y.ship(0, 2) + y.count(2), 11);
        CHECK.due("STRENGTH, WON, LOST, OVERS", 1000 * y.count(4) + 100 * y.count(5) + 10 * y.count(6) + y.count(3), 11111);

        CHECK.says("48: kept a second time under the same number");
        y.days(1);
        y.keep(0);
        y.days(5);
        y.again(0);
        CHECK.due("DAY", y.count(2), 2);
        y.days(5);
        CHECK.due("again, once more", y.again(0), true);
        CHECK.due("DAY", y.count(2), 2);
    }

    private static void again() {
        CHECK.says("49: Refused: nothing kept");
        StruckColours x = Check.sea("a5;b3");
        CHECK.due("again(0)", x.again(0), false);
        x.keep(1);
        CHECK.due("again(0)", x.again(0), false);
        CHECK.due("again(1)", x.again(1), true);

        CHECK.says("49: Refused: SHIPS came since");
        x.keep(0);
        x.days(3);
        Check.ships(x, "c1");
        CHECK.due("again(0)", x.again(0), false);
        CHECK.due("again(1)", x.again(1), false);
        CHECK.due("DAY stays", x.count(2), 3);
        CHECK.due("SHIPS stay", x.count(0), 3);
        x.keep(0);
        CHECK.due("kept since", x.again(0), true);
        CHECK.due("the other one is not", x.again(1), false);

        CHECK.says("49: no SHIPS came by an empty or a refused ships()");
        Check.ships(x, "");
        Check.ships(x, "?");
        Check.ships(x, "a1;b1;c1;d1");
        CHECK.due("SHIPS", x.count(0), 3);
        CHECK.due("again(0)", x.again(0), true);
        StruckColours none = new StruckColours();
        none.keep(0);
        none.days(4);
        CHECK.due("without SHIPS", none.again(0), true);
        CHECK.due("DAY", none.count(2), 0);
        Check.ships(none, "a1");
        CHECK.due("SHIPS came", none.again(0), false);
    }

    private static void count() {
        CHECK.says("50: NONE for another what");
        StruckColours x = Check.sea(FOUR);
        CHECK.dueLimits("count", x::count, 0, 13);

        CHECK.says("50: of a new object");
        long[] due = {0, 3, 0, 0, 0, 0, 0, 0, 0, 0, 0, 0, 0, 0};
        for (int what = 0; what <= 13; what++) {
            CHECK.due("count(" + what + ")", new StruckColours().count(what), due[what]);
        }

        CHECK.says("50: 12: PARTS that are not of the own SIDE, 13: SHIPS all whose PARTS are of one SIDE (bits)");
        StruckColours y = Check.sea("a1;b1;c1;d1;a1;b1");
        CHECK.due("count(12)", y.count(12), 0);
        CHECK.due("count(13)", y.count(13), 63);
        y.sews(5, 0, 1);
        CHECK.due("count(12)", y.count(12), 1);
        CHECK.due("count(13)", y.count(13), 31);
        y.sews(0, 1, 12);
        CHECK.due("of another SIDE, but whole", y.count(13), 31);
        for (int ship = 1; ship < 5; ship++) {
            y.sews(ship, (ship + 1) % 4, 3);
            y.sews(ship, (ship + 2) % 4, 3);
            y.sews(ship, (ship + 3) % 4, 3);
        }
        CHECK.due("count(12)", y.count(12), 37);
        CHECK.due("count(13)", y.count(13), 1);
        y.sews(0, 2, 2);
        CHECK.due("count(12)", y.count(12), 39);
        CHECK.due("count(13)", y.count(13), 0);

        CHECK.says("50: 4: STRENGTH of all, 5: WON of all, 6: LOST of all, the first and the last ship's too");
        StruckColours z = Check.strongSea("a3;b1;c1;d1;a1;b9", 1);
        z.fight(0, 1);
        z.fight(5, 0);
        z.fight(5, 4);
        CHECK.due("count(4)", z.count(4), 13);
        CHECK.due("count(5)", z.count(5), 3);
        CHECK.due("count(6)", z.count(6), 3);
    }

    private static void row() {
        CHECK.says("51: NoSuchElementException: none such");
        StruckColours x = Check.sea(FOUR);
        CHECK.dueThrows("nothing was told", () -> x.row(0));
        x.days(0);
        CHECK.due("the first one", x.row(0), 24);
        CHECK.due("the last one", x.row(3), 0);
        for (int i : new int[] {-1, 4, 8, Integer.MIN_VALUE, Integer.MAX_VALUE}) {
            CHECK.dueThrows("row(" + i + ")", () -> x.row(i));
        }
        x.whole(0);
        CHECK.dueThrows("of a longer one before", () -> x.row(1));
        StruckColours six = Check.sea("a1;b1;c1;d1;a1;b1");
        six.order(0);
        CHECK.due("the last of six", six.row(5), 5);
        CHECK.dueThrows("a seventh", () -> six.row(6));

        CHECK.says("51: long row: numbers beyond ints");
        six.series(8, 8, 1);
        CHECK.due("the lower number", six.row(1) > Integer.MAX_VALUE, true);
    }
}
