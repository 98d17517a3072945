/** Each sentence of promises 1 to 9 that names a boundary case. */
public final class ShipsEdgesTest {
    private static final Check CHECK = new Check();

    public static void main(String[] args) {
        aNewObject();
        sign();
        end();
        ships();
        shipsWithoutRoom();
        rule();
        ruleAtItsEnd();
        ship();
        force();
        take();
        sheetEntries();
        sheetReasons();
        CHECK.ends();
    }

    private static void aNewObject() {
        CHECK.says("1: No SHIPS");
        StruckColours x = new StruckColours();
        CHECK.due("count(0)", x.count(0), 0);
        CHECK.dueThrows("ship(0, 0)", () -> x.ship(0, 0));
        CHECK.due("fight(0, 1)", x.fight(0, 1), -1);
        CHECK.due("fleet(0)", x.fleet(0), 0);
        CHECK.due("another one has its own", Check.sea("a1").count(0) + x.count(0), 1);
    }

    private static void sign() {
        CHECK.says("2: Four signs come behind THE TEXT: how many it has");
        StruckColours x = new StruckColours();
        for (int i = 1; i <= 20; i++) {
            CHECK.due("sign()", x.sign(i), 4 * i);
        }

        CHECK.says("2: Refused: there would be more than 80");
        CHECK.due("from 80", x.sign(0), -1);
        CHECK.due("THE TEXT stays", x.count(11), 80);
        for (int n = 79; n >= 77; n--) {
            x.end(n);
            CHECK.due("from " + n, x.sign(0), -1);
            CHECK.due("THE TEXT stays", x.count(11), n);
        }
        x.end(76);
        CHECK.due("from 76", x.sign(0), 80);

        CHECK.says("2: of v the highest byte first");
        StruckColours y = new StruckColours();
        y.sign('a' << 24 | '1' << 16 | ';' << 8 | 'd');
        y.sign('9' << 24);
        y.end(5);
        CHECK.due("ships()", y.ships(), 2);
        CHECK.due("MIGHT, SIDE", 100 * y.ship(0, 0) + 10 * y.ship(1, 0) + y.ship(1, 2), 193);
        StruckColours z = new StruckColours();
        z.sign(-1);
        CHECK.due("a byte below 0 is no sign of a LINE", z.ships(), -1);
        z.sign(Integer.MIN_VALUE | 'a' << 16);
        CHECK.due("the highest byte is 128", z.ships(), -1);

        CHECK.says("2: behind THE TEXT");
        StruckColours u = new StruckColours();
        u.sign('a' << 24 | 'x' << 16);
        u.end(1);
        CHECK.due("behind one sign", u.sign('7' << 24), 5);
        u.end(2);
        CHECK.due("ships()", u.ships(), 1);
        CHECK.due("MIGHT", u.ship(0, 0), 7);
        CHECK.due("behind an empty one", u.sign(0), 4);
    }

    private static void end() {
        CHECK.says("3: THE TEXT has its first n signs alone: true");
        StruckColours x = new StruckColours();
        CHECK.due("end(0) of an empty one", x.end(0), true);
        x.sign(0x61356235);
        CHECK.due("all of them", x.end(4), true);
        CHECK.due("count(11)", x.count(11), 4);
        CHECK.due("one less", x.end(3), true);
        CHECK.due("count(11)", x.count(11), 3);
        CHECK.due("none", x.end(0), true);
        CHECK.due("count(11)", x.count(11), 0);

        CHECK.says("3: false if it has not so many");
        CHECK.due("one of none", x.end(1), false);
        x.sign(0x61356235);
        CHECK.due("five of four", x.end(5), false);
        CHECK.due("the greatest", x.end(Integer.MAX_VALUE), false);
        CHECK.due("count(11)", x.count(11), 4);
        x.end(2);
        CHECK.due("what was cut is gone", x.end(3), false);
        CHECK.due("count(11)", x.count(11), 2);

        CHECK.says("3: or n is below 0");
        CHECK.due("-1", x.end(-1), false);
        CHECK.due("the least", x.end(Integer.MIN_VALUE), false);
        CHECK.due("count(11)", x.count(11), 2);
        CHECK.due("THE TEXT stays", x.ships(), 1);
    }

    private static void ships() {
        CHECK.says("4: (an empty one: nothing)");
        StruckColours x = Check.sea("a1");
        CHECK.due("ships()", x.ships(), 0);
        CHECK.due("count(0)", x.count(0), 1);

        CHECK.says("4: how many LINES");
        CHECK.due("one", Check.ships(new StruckColours(), "a1"), 1);
        CHECK.due("six", Check.ships(new StruckColours(), "a1;b2;c3;d4;a5;b6"), 6);

        CHECK.says("4: -1 - p: the sign at p can't stand there");
        String text = "a1;b2;c3;d4;a5;b6";
        for (int p = 0; p < text.length(); p++) {
            for (String sign : new String[] {"x", " ", "0", "\0", "e", ":"}) {
                StruckColours y = new StruckColours();
                CHECK.due("sign at " + p, Check.ships(y, text.substring(0, p) + sign + text.substring(p + 1)), -1 - p);
                CHECK.due("count(0)", y.count(0), 0);
            }
        }

        CHECK.says("4: its end, if it ends too early");
        for (int n = 1; n < text.length(); n++) {
            int due = n % 3 == 2 ? (n + 1) / 3 : -1 - n;
            CHECK.due(n + " signs", Check.ships(new StruckColours(), text.substring(0, n)), due);
        }

        CHECK.says("4: 17, if it has more and the first 17 could go on or end");
        for (String more : new String[] {";", "x", " ", ";a1", "1", "\0", ";".repeat(63)}) {
            StruckColours y = new StruckColours();
            CHECK.due("17 and " + more.length(), Check.ships(y, text + more), -18);
            CHECK.due("count(0)", y.count(0), 0);
        }
        CHECK.due("the first 17 could not", Check.ships(new StruckColours(), "a1;b2;c3;d4;a5;b0;c1"), -17);
        CHECK.due("the first 17 could not", Check.ships(new StruckColours(), "x1;b2;c3;d4;a5;b6;c1"), -1);

        CHECK.says("4: Nothing of it comes, if a LINE can't");
        StruckColours z = Check.sea("a1;b1");
        CHECK.due("the last one can't", Check.ships(z, "a1;b2;c3;d0"), -11);
        CHECK.due("count(0)", z.count(0), 2);
        CHECK.due("THE TEXT is empty", z.count(11), 0);
    }

    private static void shipsWithoutRoom() {
        CHECK.says("4: the first sign of a LINE for which there is no room");
        String text = "a1;b2;c3;d4;a5;b6";
        for (int has = 0; has <= 6; has++) {
            String old = has == 0 ? "" : text.substring(0, 3 * has - 1);
            for (int lines = 1; lines <= 6; lines++) {
                StruckColours x = Check.sea(old);
                int due = has + lines <= 6 ? lines : -1 - 3 * (6 - has);
                CHECK.due(lines + " to " + has, Check.ships(x, text.substring(0, 3 * lines - 1)), due);
                CHECK.due("count(0)", x.count(0), has + lines <= 6 ? has + lines : has);
            }
        }
        CHECK.due("a wrong sign ahead of it", Check.ships(Check.sea("a1;b2;c3;d4;a5"), "a0;b1"), -2);
        CHECK.due("a wrong sign behind it", Check.ships(Check.sea("a1;b2;c3;d4;a5"), "a1;b0"), -4);
        CHECK.due("too early an end ahead of it", Check.ships(Check.sea("a1;b2;c3;d4;a5"), "a1;"), -4);
        CHECK.due("more than 17 behind it", Check.ships(Check.sea("a1"), text + ";c1"), -16);
    }

    private static void rule() {
        CHECK.says("5: (an empty one: none): 0");
        StruckColours x = Check.sea("a5;b3");
        Check.rule(x, "7");
        CHECK.due("rule()", x.rule(), 0);
        CHECK.due("s*2+o-e", x.force(0, 1), 1022);

        CHECK.says("5: THE TEXT is THE RULE, whatever was refused before");
        for (String bad : new String[] {"-", "--(", "2*(3+", "((((1+", "1<2<3", "999", "9999", "1<", "(1<2", "5-"}) {
            Check.rule(x, bad);
            CHECK.due("7 behind " + bad, Check.rule(x, "7"), 0);
            CHECK.due("FORCE behind " + bad, x.force(0, 1), 1007);
            CHECK.due("1<2 behind " + bad, Check.rule(x, "1<2"), 0);
        }
    }

    private static void ruleAtItsEnd() {
        CHECK.says("5: -1 - p: likewise: the sign at p can't stand there");
        StruckColours x = Check.sea("a5;b3");
        String text = "s*2+(o-e)<-w/(l=n)";
        for (int p = 0; p < text.length(); p++) {
            String bad = text.substring(0, p) + "?" + text.substring(p + 1);
            CHECK.due(bad, Check.rule(x, bad), -1 - p);
            CHECK.due("THE TEXT is empty", x.count(11), 0);
        }
        CHECK.due("the old one stays", x.force(0, 1), 1022);
        CHECK.due("itself", Check.rule(x, text), 0);

        CHECK.says("5: its end, if it ends too early");
        boolean[] whole = new boolean[text.length() + 1];
        for (int n : new int[] {1, 3, 9, 12}) {
            whole[n] = true;
        }
        whole[text.length()] = true;
        for (int n = 1; n <= text.length(); n++) {
            CHECK.due(text.substring(0, n), Check.rule(x, text.substring(0, n)), whole[n] ? 0 : -1 - n);
        }

        CHECK.says("5: 40, if it has more and the first 40 could go on or end");
        Check.rule(x, "5");
        String forty = "s+".repeat(20);
        CHECK.due("40 could go on", Check.rule(x, forty + "s"), -41);
        CHECK.due("40 could go on, what is behind can't", Check.rule(x, forty + "?"), -41);
        CHECK.due("40 could end", Check.rule(x, "-" + forty.substring(0, 39) + "+s"), -41);
        CHECK.due("40 in a bracket", Check.rule(x, "(" + forty + "s)"), -41);
        CHECK.due("40 in a number", Check.rule(x, "s+".repeat(19) + "9999"), -41);
        CHECK.due("80", Check.rule(x, "s+".repeat(40)), -41);
        CHECK.due("a fault at 39", Check.rule(x, forty.substring(0, 38) + "s?s"), -40);
        CHECK.due("a fault at 0", Check.rule(x, "?" + forty), -1);
        CHECK.due("just 40, ends too early", Check.rule(x, forty), -41);
        CHECK.due("just 40, in a bracket", Check.rule(x, "(" + forty.substring(0, 38) + "s"), -41);
        CHECK.due("the old one stays", x.force(0, 1), 1005);
        CHECK.due("just 40", Check.rule(x, "-" + forty.substring(0, 38) + "s"), 0);
    }

    private static void ship() {
        CHECK.says("6: NoSuchElementException: none such");
        StruckColours x = Check.sea("a5;b3");
        CHECK.due("the first one", x.ship(0, 0), 5);
        CHECK.due("the last one", x.ship(1, 0), 3);
        for (int ship : new int[] {-1, 2, 6, Integer.MIN_VALUE, Integer.MAX_VALUE}) {
            CHECK.dueThrows("ship " + ship, () -> x.ship(ship, 0));
        }

        CHECK.says("6: NoSuchElementException: another what");
        CHECK.due("what 8", x.ship(0, 8), 0);
        for (int what : new int[] {-1, 9, Integer.MIN_VALUE, Integer.MAX_VALUE}) {
            CHECK.dueThrows("what " + what, () -> x.ship(0, what));
        }

        CHECK.says("6: what 0: MIGHT .. 8: LOST");
        StruckColours y = Check.strongSea("c7;a2;b9", 1);
        y.sews(0, 3, 2);
        y.fight(0, 1);
        y.fight(0, 2);
        y.fight(0, 2);
        long[] due = {7, 5, 2, 1, 0, 9, 2, 1, 2};
        for (int what = 0; what < due.length; what++) {
            CHECK.due("what " + what, y.ship(0, what), due[what]);
        }
    }

    private static void force() {
        CHECK.says("7: 1000 and that (put to -999 .. 999)");
        StruckColours x = Check.sea("a5;b3;a1");
        String[] rules = {"998", "999", "999+1", "999*999", "-998", "-999", "-999-1", "-999*999", "0"};
        int[] due = {1998, 1999, 1999, 1999, 2, 1, 1, 1, 1000};
        for (int i = 0; i < rules.length; i++) {
            Check.rule(x, rules[i]);
            CHECK.due("by " + rules[i], x.force(0, 1), due[i]);
        }

        CHECK.says("7: of like SIDES, too");
        Check.rule(x, "s*100+e");
        CHECK.due("force(0, 2)", x.force(0, 2), 1512);

        CHECK.says("7: NONE: none such");
        CHECK.dueLimits("one", v -> x.force(v, 1 - v % 2), 0, 2);
        CHECK.dueLimits("other", v -> x.force(1 - v % 2, v), 0, 2);

        CHECK.says("7: NONE: like ones");
        for (int ship = -1; ship <= 3; ship++) {
            CHECK.due("ship " + ship, x.force(ship, ship), -1);
        }
    }

    private static void take() {
        CHECK.says("8: TAKE becomes v (1 .. 6): what it was");
        StruckColours x = new StruckColours();
        int was = 3;
        for (int v = 1; v <= 6; v++) {
            CHECK.due("take(" + v + ")", x.take(v), was);
            CHECK.due("count(1)", x.count(1), v);
            was = v;
        }
        CHECK.due("the same", x.take(6), 6);

        CHECK.says("8: Refused: others");
        for (int v : new int[] {0, 7, -1, Integer.MIN_VALUE, Integer.MAX_VALUE}) {
            CHECK.due("take(" + v + ")", x.take(v), -1);
            CHECK.due("count(1)", x.count(1), 6);
        }
    }

    private static void dueEntry(int kind, int f, int want) {
        StruckColours x = Check.sea("a9;b9");
        CHECK.due("kind " + kind + ", " + f, x.sheet(kind, 1, f, 0), want);
        CHECK.due("of the first one", x.ship(0, 1), want);
        CHECK.due("of the second one", x.ship(1, 1), 0);
    }

    private static void sheetEntries() {
        CHECK.says("9: of bytes the lowest bits, with their sign; put to 0 .. MIGHT");
        int[][] bytes = {{0, 0}, {1, 1}, {9, 9}, {10, 9}, {127, 9}, {128, 0}, {255, 0}, {256, 0}, {257, 1}, {-1, 0}, {-255, 1},
            {-249, 7}, {65536 + 5, 5}, {Integer.MAX_VALUE, 0}, {Integer.MIN_VALUE, 0}, {Integer.MIN_VALUE + 3, 3}};
        for (int[] each : bytes) {
            dueEntry(0, each[0], each[1]);
        }

        CHECK.says("9: of shorts the lowest bits, with their sign; put to 0 .. MIGHT");
        int[][] shorts = {{0, 0}, {9, 9}, {10, 9}, {128, 9}, {257, 9}, {32767, 9}, {32768, 0}, {65535, 0}, {65536, 0},
            {65538, 2}, {-1, 0}, {-65533, 3}, {Integer.MAX_VALUE, 0}, {Integer.MIN_VALUE + 4, 4}};
        for (int[] each : shorts) {
            dueEntry(1, each[0], each[1]);
        }

        CHECK.says("9: ints (2); put to 0 .. MIGHT");
        int[][] ints = {{0, 0}, {8, 8}, {9, 9}, {10, 9}, {32768, 9}, {65536, 9}, {-1, 0}, {-65533, 0},
            {Integer.MAX_VALUE, 9}, {Integer.MIN_VALUE, 0}};
        for (int[] each : ints) {
            dueEntry(2, each[0], each[1]);
        }

        CHECK.says("9: n entries f, f + step, ..");
        StruckColours x = Check.sea("a9;b9;c9;d9;a9;b9");
        CHECK.due("six", x.sheet(2, 6, 1, 1), 21);
        for (int ship = 0; ship < 6; ship++) {
            CHECK.due("STRENGTH", x.ship(ship, 1), ship + 1);
        }
        CHECK.due("down, below 0", x.sheet(2, 6, 2, -1), 3);
        // The second is -2 as an int, the third 2147483645.
        CHECK.due("they wrap around", x.sheet(2, 3, Integer.MAX_VALUE, Integer.MAX_VALUE), 9 + 0 + 9);
        CHECK.due("they wrap around", x.sheet(2, 3, 5, 1 << 31), 5 + 0 + 5);
        CHECK.due("bytes do", x.sheet(0, 3, 120, 130), 9 + 0 + 9);
        CHECK.due("shorts do", x.sheet(1, 3, 32767, 32769), 9 + 0 + 0);

        CHECK.says("9: those behind it have 0");
        CHECK.due("none", x.sheet(2, 0, 5, 0), 0);
        x.days(3);
        CHECK.due("two of six", x.sheet(2, 2, 4, 0), 8);
        CHECK.due("the last one", x.ship(5, 1), 0);

        CHECK.says("9: entries beyond the SHIPS are of none");
        StruckColours two = Check.sea("a9;b9");
        CHECK.due("six of two", two.sheet(2, 6, 3, 1), 7);
    }

    private static void sheetReasons() {
        CHECK.says("9: -2: n below 0 (of kinds 0 .. 2; nothing changes)");
        StruckColours x = Check.sea("a9;b9");
        for (int kind = 0; kind <= 2; kind++) {
            CHECK.due("kind " + kind, x.sheet(kind, -1, 1, 1), -2);
            CHECK.due("kind " + kind, x.sheet(kind, Integer.MIN_VALUE, 1, 1), -2);
            CHECK.due("kind " + kind + ", n of 0", Check.sea("a9").sheet(kind, 0, 1, 1), 0);
        }
        CHECK.due("count(4)", x.count(4), 18);

        CHECK.says("9: NONE: another kind (first)");
        for (int kind : new int[] {-1, 4, Integer.MIN_VALUE, Integer.MAX_VALUE}) {
            CHECK.due("kind " + kind, x.sheet(kind, 1, 1, 1), -1);
            CHECK.due("kind " + kind + ", n below 0", x.sheet(kind, -1, 1, 1), -1);
        }
        CHECK.due("count(4)", x.count(4), 18);

        CHECK.says("9: NONE: n above 6 (first)");
        for (int kind = 0; kind <= 3; kind++) {
            CHECK.due("kind " + kind + ", n of 7", x.sheet(kind, 7, 1, 1), -1);
            CHECK.due("kind " + kind, x.sheet(kind, Integer.MAX_VALUE, 1, 1), -1);
        }
        CHECK.due("count(4)", x.count(4), 18);

        CHECK.says("9: -3: missing (all 0)");
        for (int n : new int[] {0, 1, 6, -1, Integer.MIN_VALUE}) {
            StruckColours y = Check.sea("a9;b9");
            CHECK.due("n of " + n, y.sheet(3, n, 5, 1), -3);
            CHECK.due("count(4)", y.count(4), 0);
        }
        CHECK.due("without SHIPS", new StruckColours().sheet(3, 0, 0, 0), -3);
        CHECK.due("without SHIPS", new StruckColours().sheet(2, 6, 9, 9), 0);
    }
}
