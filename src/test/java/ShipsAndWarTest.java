/** Promises 1 to 15: ships and war. */
public final class ShipsAndWarTest {
    private static final String FOUR = "a5;b3;c4;a2";
    private static final Check CHECK = new Check();

    public static void main(String[] args) {
        aNewObject();
        sign();
        end();
        ships();
        rule();
        ruleValues();
        ship();
        force();
        take();
        sheet();
        fight();
        goesOverInFight();
        mostWonAndLost();
        days();
        sews();
        yields();
        war();
        warFaults();
        undo();
        undoKinds();
        CHECK.ends();
    }

    private static void aNewObject() {
        StruckColours x = new StruckColours();
        long[] due = {0, 3, 0, 0, 0, 0, 0, 0, 0, 0, 0, 0, 0, 0};
        for (int what = 0; what < due.length; what++) {
            CHECK.due("1 count(" + what + ")", x.count(what), due[what]);
        }
        CHECK.due("1 NONE", StruckColours.NONE, -1);
        CHECK.due("1 undo()", x.undo(), -1);
        CHECK.due("1 again(0)", x.again(0), false);
    }

    private static void sign() {
        StruckColours x = new StruckColours();
        CHECK.due("2 sign", x.sign(0x61356235), 4);
        CHECK.due("2 end", x.end(2), true);
        CHECK.due("2 highest byte first", x.ships(), 1);
        CHECK.due("2 highest byte first", x.ship(0, 0), 5);
        for (int i = 1; i <= 20; i++) {
            CHECK.due("2 sign " + i, x.sign(-1), 4 * i);
        }
        CHECK.due("2 sign beyond 80", x.sign(0), -1);
        CHECK.due("2 nothing came", x.count(11), 80);
        CHECK.due("2 end", x.end(77), true);
        CHECK.due("2 sign beyond 80 from 77", x.sign(0), -1);
        CHECK.due("2 end", x.end(76), true);
        CHECK.due("2 sign just to 80", x.sign(0), 80);
    }

    private static void end() {
        StruckColours x = new StruckColours();
        CHECK.due("3 end(0) of none", x.end(0), true);
        CHECK.due("3 end(1) of none", x.end(1), false);
        x.sign(0x61356235);
        CHECK.due("3 end(-1)", x.end(-1), false);
        CHECK.due("3 end(5)", x.end(5), false);
        CHECK.due("3 unchanged", x.count(11), 4);
        CHECK.due("3 end(4)", x.end(4), true);
        CHECK.due("3 end(3)", x.end(3), true);
        CHECK.due("3 end(4) then", x.end(4), false);
        CHECK.due("3 signs", x.count(11), 3);
    }

    private static void ships() {
        StruckColours x = new StruckColours();
        CHECK.due("4 empty", Check.ships(x, ""), 0);
        CHECK.due("4 two", Check.ships(x, "d9;b1"), 2);
        CHECK.due("4 the text is empty", x.count(11), 0);
        CHECK.due("4 side", x.ship(0, 2), 3);
        CHECK.due("4 parts", x.ship(0, 6), 12);
        CHECK.due("4 strength", x.ship(0, 1), 9);
        String[] bad = {"e1", "a", "a0", "a1;", "a1,", "a1;e", "A1", "a1;a10", "a1 ", ";", "a1;b2;c3;d4;a5", "a1;b2;c3;d4;"};
        int[] due = {-1, -2, -2, -4, -3, -4, -1, -6, -3, -1, -13, -13};
        for (int i = 0; i < bad.length; i++) {
            CHECK.due("4 ships of " + bad[i], Check.ships(x, bad[i]), due[i]);
            CHECK.due("4 nothing came of " + bad[i], x.count(0), 2);
            CHECK.due("4 the text is empty", x.count(11), 0);
        }
        CHECK.due("4 four more", Check.ships(x, "a1;b2;c3;d4"), 4);
        CHECK.due("4 no room", Check.ships(x, "a1"), -1);
        CHECK.due("4 no room and a wrong sign behind", Check.ships(x, "ax"), -1);
        CHECK.due("4 empty without room", Check.ships(x, ""), 0);
        StruckColours y = new StruckColours();
        CHECK.due("4 more than 17", Check.ships(y, "a1;a1;a1;a1;a1;a1 "), -18);
        CHECK.due("4 more than 17, a fault ahead", Check.ships(y, "a1;a1;a1;a1;a1;a0;a1"), -17);
        CHECK.due("4 just 17", Check.ships(y, "a1;a1;a1;a1;a1;a1"), 6);
    }

    private static void rule() {
        StruckColours x = Check.sea("a5;b3");
        String nines = "9+9+9+9+9+9+9+9+9+9+9+9+9+9+9+9+9+9+9+9";
        String[] texts = {"s", "x", "s+", "s<o<e", "s<(o<e)", "(s<o)<e", "(s<o<e)", "(s", "((((s))))", "(((((s", "1000",
            "999", "--s", "s--s", "s+*s", "s)", "()", "ss", "s2", "2s", "(s)2", "-", "*s", "s<o=e", "s<-o", "s =", "A",
            nines + "9", nines + "99", nines + "+9", nines + "+", "1+(2<3)+(4<5)", "(s<o)=(e<1)", "(1<2)+(1<2<3)",
            "~s", "s~s"};
        int[] due = {0, -1, -3, -4, 0, 0, -5, -3, 0, -5, -4,
            0, 0, 0, -3, -2, -2, -2, -2, -2, -4, -2, -1, -4, 0, -2, -1,
            0, -41, -41, -41, 0, 0, -11,
            -1, -2};
        for (int i = 0; i < texts.length; i++) {
            CHECK.due("5 rule of " + texts[i], Check.rule(x, texts[i]), due[i]);
            CHECK.due("5 the text is empty", x.count(11), 0);
        }
        Check.rule(x, "7");
        CHECK.due("5 a bad one", Check.rule(x, "7+"), -3);
        CHECK.due("5 the old one stays", x.force(0, 1), 1007);
        CHECK.due("5 law() leaves it", Check.law(x, "8"), 0);
        CHECK.due("5 the old one stays", x.force(0, 1), 1007);
        CHECK.due("5 none", Check.rule(x, ""), 0);
        CHECK.due("5 then s*2+o-e", x.force(0, 1), 1022);
    }

    private static void ruleValues() {
        String[] rules = {"2+3*4", "(2+3)*4", "10-3-2", "24/4/2", "7/0", "-7/2", "7/-2", "0-7/2", "-2*3", "2*-3", "2--3",
            "---5", "-(2+3)", "1+2<3+1", "3<3", "4>3", "3=3", "2=3", "3<4*1", "9-(8-(7-(6-5)))", "999*999*999*999", "5/2*2",
            "s", "o", "e", "w", "l", "n", "-s*-1", "012"};
        int[] due = {14, 20, 5, 3, 0, -3, -3, -3, -6, -6, 5,
            -5, -5, 1, 0, 1, 1, 0, 1, 7, -999, 4,
            4, 10, 2, 1, 1, 3, 4, 12};
        // A fight lost, one won, ten days: parts of b come back, all but what is sewn in last.
        StruckColours x = Check.sea("a4;b9");
        x.fight(0, 1);
        Check.rule(x, "0-s");
        x.fight(0, 1);
        x.days(10);
        x.sews(0, 1, 2);
        for (int i = 0; i < rules.length; i++) {
            Check.rule(x, rules[i]);
            CHECK.due("5 force by " + rules[i], x.force(0, 1), 1000 + due[i]);
        }
    }

    private static void ship() {
        StruckColours x = Check.sea("c7;a2");
        x.sews(0, 3, 3);
        x.fight(0, 1);
        long[] due = {7, 7, 2, 3, 0, 6, 3, 1, 0};
        for (int what = 0; what < due.length; what++) {
            CHECK.due("6 ship(0, " + what + ")", x.ship(0, what), due[what]);
        }
        CHECK.due("6 ship(1, 8)", x.ship(1, 8), 1);
        CHECK.dueThrows("6 ship(2, 0)", () -> x.ship(2, 0));
        CHECK.dueThrows("6 ship(-1, 0)", () -> x.ship(-1, 0));
        CHECK.dueThrows("6 ship(0, 9)", () -> x.ship(0, 9));
        CHECK.dueThrows("6 ship(0, -1)", () -> x.ship(0, -1));
        CHECK.dueThrows("6 ship(6, 0)", () -> x.ship(6, 0));
    }

    private static void force() {
        StruckColours x = Check.sea(FOUR);
        CHECK.due("7 force(0, 1)", x.force(0, 1), 1022);
        CHECK.due("7 of like sides", x.force(0, 3), 1010);
        CHECK.due("7 like ones", x.force(1, 1), -1);
        CHECK.due("7 none such", x.force(0, 4), -1);
        CHECK.due("7 none such", x.force(-1, 0), -1);
        Check.rule(x, "s*999");
        CHECK.due("7 put to 999", x.force(0, 1), 1999);
        CHECK.due("7 not put for the fight", x.wins(1, 2), 2);
        Check.rule(x, "-s*999");
        CHECK.due("7 put to -999", x.force(0, 1), 1);
        CHECK.due("7 not put for the fight", x.wins(1, 2), 1);
    }

    private static void take() {
        StruckColours x = Check.sea("a5;b3");
        CHECK.due("8 take(1)", x.take(1), 3);
        CHECK.due("8 take(0)", x.take(0), -1);
        CHECK.due("8 take(7)", x.take(7), -1);
        CHECK.due("8 take(6)", x.take(6), 1);
        x.fight(0, 1);
        CHECK.due("8 six parts", x.ship(0, 4), 6);
        CHECK.due("8 undo() leaves it", x.undo(), 0);
        CHECK.due("8 take", x.count(1), 6);
    }

    private static void sheet() {
        StruckColours x = Check.sea(FOUR);
        CHECK.due("9 bytes", x.sheet(0, 2, 130, 126), 0);
        CHECK.due("9 bytes, 258 is 2", x.sheet(0, 1, 258, 0), 2);
        CHECK.due("9 the others have 0", x.count(4), 2);
        CHECK.due("9 shorts, 65538 is 2", x.sheet(1, 3, 65538, -1), 3);
        CHECK.due("9 shorts with their sign", x.sheet(1, 1, 40000, 0), 0);
        CHECK.due("9 ints", x.sheet(2, 4, 40000, 0), 14);
        CHECK.due("9 ints wrap", x.sheet(2, 4, Integer.MAX_VALUE, 1), 5);
        CHECK.due("9 more entries than ships", x.sheet(2, 6, 1, 1), 1 + 2 + 3 + 2);
        CHECK.due("9 n below 0", x.sheet(1, -1, 1, 1), -2);
        CHECK.due("9 nothing changes", x.count(4), 8);
        CHECK.due("9 n above 6", x.sheet(2, 7, 1, 1), -1);
        CHECK.due("9 n above 6, missing", x.sheet(3, 7, 1, 1), -1);
        CHECK.due("9 another kind", x.sheet(4, -1, 1, 1), -1);
        CHECK.due("9 another kind", x.sheet(-1, 1, 1, 1), -1);
        CHECK.due("9 nothing changes", x.count(4), 8);
        CHECK.due("9 missing, n below 0", x.sheet(3, -5, 1, 1), -3);
        CHECK.due("9 all 0", x.count(4), 0);
        CHECK.due("9 n of 0", x.sheet(2, 0, 5, 5), 0);
        CHECK.due("9 nothing to undo", x.undo(), -1);
        CHECK.due("9 without ships", new StruckColours().sheet(2, 6, 1, 1), 0);
    }

    private static void fight() {
        StruckColours x = Check.sea(FOUR);
        CHECK.due("10 the second one wins", x.fight(1, 0), 0);
        CHECK.due("10 parts of the winner", x.ship(0, 3), 9);
        CHECK.due("10 parts of the loser's side", x.ship(0, 4), 3);
        CHECK.due("10 the loser's flag", x.ship(1, 4), 12);
        CHECK.due("10 won", x.ship(0, 7), 1);
        CHECK.due("10 lost", x.ship(1, 8), 1);
        CHECK.due("10 strength of the loser", x.ship(1, 1), 2);
        CHECK.due("10 strength of the winner", x.ship(0, 1), 5);
        CHECK.due("10 of one side", x.fight(0, 3), -2);
        CHECK.due("10 nobody", x.fight(0, 1), -3);
        CHECK.due("10 nothing changes", x.ship(0, 7) + x.ship(1, 7), 1);
        CHECK.due("10 like ones", x.fight(2, 2), -1);
        CHECK.due("10 none such", x.fight(0, 4), -1);
        CHECK.due("10 none such", x.fight(-1, 0), -1);
        x.sheet(3, 0, 0, 0);
        Check.rule(x, "o");
        CHECK.due("10 strength 0", x.fight(1, 0), 1);
        CHECK.due("10 stays 0", x.ship(0, 1), 0);
    }

    private static void goesOverInFight() {
        StruckColours x = Check.sea("b9;c1;a1;d1");
        Check.rule(x, "s");
        x.take(4);
        x.fight(0, 1);
        x.fight(0, 2);
        CHECK.due("10 as many as her own: she stays", x.ship(0, 2), 1);
        CHECK.due("10 overs", x.count(3), 0);
        x.fight(0, 3);
        CHECK.due("10 of equal ones the first", x.ship(0, 2), 0);
        CHECK.due("10 overs", x.count(3), 1);
        CHECK.due("10 no parts are left", x.ship(0, 4), 0);
        StruckColours y = Check.sea("a9;b1");
        Check.rule(y, "s");
        y.take(5);
        y.sews(0, 2, 4);
        y.sews(0, 3, 4);
        CHECK.due("10 four of each of three", y.ship(0, 2), 0);
        CHECK.due("10 fight", y.fight(0, 1), 0);
        CHECK.due("10 as many as there are", y.ship(0, 4), 4);
        CHECK.due("10 she is b, the first of three", y.ship(0, 2), 1);
    }

    private static void mostWonAndLost() {
        StruckColours x = Check.sea("a9;b1");
        Check.rule(x, "s");
        x.take(1);
        for (int i = 0; i < 9; i++) {
            CHECK.due("10 war", Check.war(x, "f01n1".repeat(12)), 24);
            CHECK.due("10 won", x.ship(0, 7), Math.min(99, 12 * (i + 1)));
            CHECK.due("10 lost", x.ship(1, 8), Math.min(99, 12 * (i + 1)));
        }
        CHECK.due("11 day", x.count(2), 108);
    }

    private static void days() {
        StruckColours x = Check.sea(FOUR);
        x.sews(0, 3, 2);
        x.sews(0, 1, 2);
        x.sews(0, 2, 1);
        x.sheet(2, 4, 0, 0);
        CHECK.due("11 days(0)", x.days(0), 0);
        CHECK.dueRow("11 days(0)", x, 19, 14, 13, 2);
        CHECK.due("11 day 0", x.count(2), 0);
        CHECK.due("11 days(1)", x.days(1), 4);
        CHECK.dueRow("11 the fewest first", x, 20, 14, 12, 2);
        CHECK.due("11 days(1)", x.days(1), 8);
        CHECK.dueRow("11 of equal ones the first", x, 21, 13, 12, 2);
        CHECK.due("11 days(1)", x.days(1), 3 + 3 + 3 + 2);
        CHECK.dueRow("11 then fewest", x, 22, 12, 12, 2);
        CHECK.due("11 days(60)", x.days(60), 14);
        CHECK.dueRow("11 all", x, 24, 12, 12, 0);
        CHECK.due("11 days(61)", x.days(61), -1);
        CHECK.due("11 days(-1)", x.days(-1), -1);
        CHECK.dueRow("11 the row stays", x, 24, 12, 12, 0);
        CHECK.due("11 day", x.count(2), 63);
    }

    private static void sews() {
        StruckColours x = Check.sea("c4;b2");
        CHECK.due("12 six: she stays", x.sews(0, 0, 6), 2);
        CHECK.due("12 six more are not more", x.sews(0, 1, 6), 0);
        CHECK.due("12 of equal ones the first", x.ship(0, 2), 0);
        CHECK.due("12 overs", x.count(3), 1);
        CHECK.due("12 not so many", x.sews(0, 1, 7), -2);
        CHECK.due("12 her own", x.sews(0, 0, 6), -3);
        CHECK.due("12 n of 0", x.sews(0, 1, 0), -1);
        CHECK.due("12 n of 13", x.sews(0, 1, 13), -1);
        CHECK.due("12 side of 4", x.sews(0, 4, 1), -1);
        CHECK.due("12 side of -1", x.sews(0, -1, 1), -1);
        CHECK.due("12 none such", x.sews(2, 0, 1), -1);
        CHECK.due("12 none such", x.sews(-1, 0, 1), -1);
        CHECK.due("12 unchanged", x.ship(0, 3) * 100 + x.ship(0, 4), 606);
        CHECK.due("12 all twelve", x.sews(1, 3, 12), 3);
        CHECK.due("12 overs", x.count(3), 2);
    }

    private static void yields() {
        StruckColours x = Check.sea("a5;b3");
        x.sews(0, 1, 4);
        CHECK.due("13 yields", x.yields(0, 1), 8);
        CHECK.due("13 side", x.ship(0, 2), 1);
        CHECK.due("13 parts", x.ship(0, 4), 12);
        CHECK.due("13 no overs", x.count(3), 0);
        CHECK.due("13 already", x.yields(0, 1), -2);
        CHECK.due("13 another side", x.yields(0, 4), -1);
        CHECK.due("13 another side", x.yields(0, -1), -1);
        CHECK.due("13 none such", x.yields(2, 0), -1);
        x.sews(1, 0, 5);
        CHECK.due("13 to her own side", x.yields(1, 1), 5);
        CHECK.due("13 strength stays", x.ship(1, 1), 3);
    }

    private static void war() {
        StruckColours x = Check.sea(FOUR);
        CHECK.due("14 war", Check.war(x, "f01f01n1s2d7y1af03n1"), 5);
        CHECK.dueRow("14 one could not be", x, 1, 1);
        CHECK.due("14 what comes behind is not done", x.count(2), 1);
        CHECK.due("14 the text is empty", x.count(11), 0);
        CHECK.due("14 what can be undone", x.count(9), 1);
        CHECK.due("14 undo", x.undo(), 0);
        CHECK.due("14 all of it", x.count(2) + x.count(3) + x.count(5) + x.count(12), 0);
        CHECK.due("14 empty", Check.war(x, ""), 0);
        CHECK.dueRow("14 empty", x, 0, 0);
        CHECK.due("14 nobody wins, alone", Check.war(Check.sea("a1;b1"), "f01"), 1);
        CHECK.due("14 the first can't be", Check.war(x, "s0a1n1"), 0);
        CHECK.dueRow("14 the first can't be", x, 1, 0);
        CHECK.due("14 nothing to undo", x.count(9), 0);
        String[] stops = {"f00", "f09", "f90", "s9a1", "s1a9s1a9", "y0a", "y9a"};
        int[] done = {0, 0, 0, 0, 1, 0, 0};
        for (int i = 0; i < stops.length; i++) {
            CHECK.due("14 war of " + stops[i], Check.war(x, stops[i]), done[i]);
            CHECK.due("14 war of " + stops[i] + ": row(0)", x.row(0), 1);
        }
        CHECK.due("14 sixty signs", Check.war(x, "n0".repeat(30)), 30);
        CHECK.dueRow("14 sixty signs", x, 0, 1);
    }

    private static void warFaults() {
        StruckColours x = Check.sea(FOUR);
        String[] bad = {"x", "f", "f0", "fa", "f0a", "n", "na", "s", "s0", "s0a", "s00", "s0e1", "s0a0", "y", "y0", "y0e",
            "n1 ", "n1;n1", "n11", "n1".repeat(31), "n1".repeat(29) + "y0a", "n1".repeat(29) + "y0", "n1".repeat(29) + "yy",
            "n1".repeat(30) + "?"};
        int[] due = {-1, -2, -3, -2, -3, -2, -2, -2, -3, -4, -3, -3, -4, -2, -3, -3,
            -3, -3, -3, -61, -61, -61, -60,
            -61};
        x.fleet(1);
        for (int i = 0; i < bad.length; i++) {
            CHECK.due("14 war of " + bad[i], Check.war(x, bad[i]), due[i]);
            CHECK.due("14 nothing is done", x.count(2) + x.count(9), 0);
            CHECK.due("14 the text is empty", x.count(11), 0);
            CHECK.dueRow("14 the row stays", x, 3, 12);
        }
    }

    private static void undo() {
        StruckColours x = Check.sea(FOUR);
        x.fight(0, 1);
        x.sews(2, 3, 7);
        x.days(2);
        CHECK.due("15 undo", x.undo(), 2);
        CHECK.due("15 day", x.count(2), 0);
        CHECK.due("15 strength", x.ship(1, 1), 2);
        CHECK.due("15 undo", x.undo(), 1);
        CHECK.due("15 side", x.ship(2, 2), 2);
        CHECK.due("15 overs", x.count(3), 0);
        CHECK.due("15 flag", x.ship(2, 5), 12);
        CHECK.due("15 undo", x.undo(), 0);
        CHECK.due("15 won, lost", x.count(5) + x.count(6), 0);
        CHECK.due("15 strength", x.count(4), 14);
        CHECK.due("15 none", x.undo(), -1);
        for (int i = 0; i < 14; i++) {
            x.days(1);
        }
        CHECK.due("15 twelve are kept", x.count(9), 12);
        for (int i = 11; i >= 0; i--) {
            CHECK.due("15 undo", x.undo(), i);
            CHECK.due("15 day", x.count(2), i + 2);
        }
        CHECK.due("15 none", x.undo(), -1);
    }

    private static void undoKinds() {
        StruckColours x = Check.sea("a5;b5");
        x.fight(0, 1);
        x.fight(0, 0);
        x.days(0);
        x.days(61);
        x.sews(0, 0, 1);
        x.yields(0, 0);
        Check.war(x, "f00");
        Check.war(x, "");
        CHECK.due("15 nothing such as can be undone", x.count(9), 0);
        Check.war(x, "f01");
        CHECK.due("15 a war that did one act, though nobody won", x.count(9), 1);
        x.yields(0, 1);
        CHECK.due("15 yields", x.count(9), 2);
        CHECK.due("15 empty ships", Check.ships(x, ""), 0);
        CHECK.due("15 does not forget", x.count(9), 2);
        CHECK.due("15 refused ships", Check.ships(x, "a0"), -2);
        CHECK.due("15 does not forget", x.count(9), 2);
        CHECK.due("15 undo", x.undo(), 1);
        CHECK.due("15 side", x.ship(0, 2), 0);
        CHECK.due("15 ships", Check.ships(x, "a1"), 1);
        CHECK.due("15 forgets", x.undo(), -1);
        x.days(3);
        CHECK.due("15 refused again", x.again(0), false);
        CHECK.due("15 does not forget", x.count(9), 1);
        x.keep(0);
        x.again(0);
        CHECK.due("15 again forgets", x.count(9), 0);
        CHECK.due("15 again", x.count(2), 3);
    }
}
