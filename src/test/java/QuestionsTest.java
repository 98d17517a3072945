/** Promises 16 to 51: questions, what was seen and told, what is kept. */
public final class QuestionsTest {
    private static final String FOUR = "a5;b3;c4;a2";
    private static final Check CHECK = new Check();

    public static void main(String[] args) {
        fleetAndShare();
        laterAndWhole();
        sistersAndMotley();
        order();
        rivals();
        duel();
        tempts();
        winsAndSuits();
        goesOverAndPeace();
        campaign();
        halvesAndEvens();
        worth();
        patched();
        sights();
        looks();
        lawsOfGoingOver();
        treaty();
        series();
        rests();
        law();
        years();
        kept();
        count();
        row();
        questionsChangeNothing();
        CHECK.ends();
    }

    private static void fleetAndShare() {
        StruckColours x = Check.sea(FOUR);
        x.sews(1, 0, 4);
        x.sews(3, 3, 7);
        CHECK.due("16 fleet(0)", x.fleet(0), 1);
        CHECK.dueRow("16 fleet(0)", x, 5, 12 + 4 + 5);
        CHECK.due("16 fleet(3)", x.fleet(3), 8);
        CHECK.dueRow("16 fleet(3)", x, 2, 7);
        CHECK.due("16 fleet(4)", x.fleet(4), -1);
        CHECK.due("16 fleet(-1)", x.fleet(-1), -1);
        CHECK.dueRow("16 the row stays", x, 2, 7);
        CHECK.due("17 share(0)", x.share(0), 0);
        CHECK.dueRow("17 share(0)", x, 7, 16);
        CHECK.due("17 share(2)", x.share(2), 0);
        CHECK.dueRow("17 share(2)", x, 1, 4);
        CHECK.due("17 share(4)", x.share(4), -1);
        CHECK.due("17 share(-1)", x.share(-1), -1);
        CHECK.dueRow("17 the row stays", x, 1, 4);
        CHECK.due("17 without ships", new StruckColours().share(0), -1);
        StruckColours y = Check.sea("a1");
        y.share(1);
        CHECK.dueRow("17 0 by 1", y, 0, 1);
        y.share(0);
        CHECK.dueRow("17 1 by 1", y, 1, 1);
    }

    private static void laterAndWhole() {
        StruckColours x = Check.sea("c5");
        x.sews(0, 0, 3);
        x.sews(0, 3, 2);
        CHECK.due("18 later(0, 0)", x.later(0, 0), 2);
        CHECK.dueRow("18 later(0, 0)", x, 3, 0, 7, 2);
        CHECK.due("18 later(0, 3)", x.later(0, 3), 2);
        CHECK.dueRow("18 later(0, 3)", x, 2, 0, 10, 0);
        CHECK.due("18 later(0, 99)", x.later(0, 99), 2);
        CHECK.dueRow("18 later(0, 99)", x, 0, 0, 12, 0);
        CHECK.due("18 later(0, 100)", x.later(0, 100), -1);
        CHECK.due("18 later(0, -1)", x.later(0, -1), -1);
        CHECK.due("18 later(1, 0)", x.later(1, 0), -1);
        CHECK.due("19 whole(0)", x.whole(0), 5);
        CHECK.dueRow("19 whole(0)", x, 2);
        x.days(5);
        CHECK.due("19 whole then", x.whole(0), 0);
        CHECK.dueRow("19 whole then", x, 2);
        CHECK.due("19 whole(1)", x.whole(1), -1);
        CHECK.due("19 whole(-1)", x.whole(-1), -1);
    }

    private static void sistersAndMotley() {
        StruckColours x = Check.sea("a5;b3;c4");
        CHECK.due("20 sisters", x.sisters(), 24);
        CHECK.dueRow("20 of like ones the least", x, 0, 1);
        x.sews(1, 2, 2);
        CHECK.due("20 sisters", x.sisters(), 20);
        CHECK.dueRow("20 sisters", x, 1, 2);
        CHECK.due("20 one ship", Check.sea("a1").sisters(), -2);
        CHECK.due("20 no ship", new StruckColours().sisters(), -2);
        CHECK.due("21 motley", x.motley(), 1);
        CHECK.dueRow("21 motley", x, 2, 1);
        x.sews(2, 0, 1);
        x.sews(2, 1, 1);
        CHECK.due("21 of equal ones the first", x.motley(), 1);
        x.sews(2, 3, 1);
        CHECK.due("21 motley", x.motley(), 2);
        CHECK.dueRow("21 motley", x, 3, 3);
        CHECK.due("21 no ship", new StruckColours().motley(), -2);
    }

    private static void order() {
        StruckColours x = Check.sea("a5;b3;c4;b2;d9");
        x.sews(2, 1, 3);
        x.sews(4, 1, 3);
        CHECK.due("22 order(1)", x.order(1), 4);
        CHECK.dueRow("22 order(1)", x, 1, 3, 2, 4, 0);
        CHECK.due("22 order(4)", x.order(4), -1);
        CHECK.due("22 order(-1)", x.order(-1), -1);
        CHECK.dueRow("22 the row stays", x, 1, 3, 2, 4, 0);
        StruckColours y = new StruckColours();
        CHECK.due("22 no ships", y.order(0), 0);
        CHECK.dueRow("22 no ships", y);
    }

    private static void rivals() {
        StruckColours x = Check.sea("b4;a5;c4;b9;d3");
        CHECK.due("23 rivals(0)", x.rivals(0), 16);
        CHECK.dueRow("23 rivals(0)", x, 2, 4);
        CHECK.due("23 rivals(5)", x.rivals(5), -1);
        CHECK.due("23 rivals(-1)", x.rivals(-1), -1);
    }

    private static void duel() {
        StruckColours x = Check.sea("a5;b3");
        CHECK.due("24 till nobody wins", x.duel(0, 1, 20), 1);
        CHECK.dueRow("24 till nobody wins", x, 1, 0, 1);
        CHECK.due("24 the other way round", x.duel(1, 0, 20), 1);
        CHECK.dueRow("24 the other way round", x, 0, 1, 0);
        Check.rule(x, "s");
        x.take(6);
        // 12 a; 6 and 6, a day: 7 and 5; 1 and 11: over, by the second fight.
        CHECK.due("24 till of one side", x.duel(0, 1, 20), 2);
        CHECK.dueRow("24 till of one side", x, 2, 1, 1);
        CHECK.due("24 one fight", x.duel(0, 1, 1), 1);
        CHECK.dueRow("24 one fight", x, 1, 0, 1);
        Check.rule(x, "n*o");
        CHECK.due("24 nobody on day 0", x.duel(0, 1, 20), 0);
        CHECK.dueRow("24 nobody on day 0", x, 0, 0, 1);
        CHECK.due("24 n of 0", x.duel(0, 1, 0), -1);
        CHECK.due("24 n of 21", x.duel(0, 1, 21), -1);
        CHECK.due("24 like ones", x.duel(0, 0, 1), -1);
        CHECK.due("24 none such", x.duel(0, 2, 1), -1);
        CHECK.due("24 nothing changes", x.count(5) + x.count(2), 0);
    }

    private static void tempts() {
        StruckColours x = Check.sea("a5;b3;c4");
        CHECK.due("25 seven of twelve", x.tempts(0), 7);
        CHECK.dueRow("25 the first", x, 1);
        x.sews(2, 0, 3);
        CHECK.due("25 nine and three", x.tempts(0), 4);
        CHECK.dueRow("25 nine and three", x, 2);
        CHECK.due("25 another side", x.tempts(4), -1);
        CHECK.due("25 another side", x.tempts(-1), -1);
        CHECK.due("25 all are", Check.sea("d1;d2").tempts(3), -2);
        CHECK.due("25 no ships", new StruckColours().tempts(3), -2);
        StruckColours y = Check.sea("c5");
        y.sews(0, 3, 6);
        // One to five: she is d; by the sixth there are 6 of a and 6 of d.
        CHECK.due("25 past a third side", y.tempts(0), 6);
    }

    private static void winsAndSuits() {
        StruckColours x = Check.sea(FOUR);
        x.take(6);
        x.fight(0, 1);
        CHECK.due("26 wins(1, 0)", x.wins(1, 0), 1);
        CHECK.dueRow("26 wins(1, 0)", x, 1, 0);
        x.sews(2, 0, 1);
        CHECK.due("26 wins(1, 2)", x.wins(1, 2), 2);
        CHECK.dueRow("26 wins(1, 2)", x, 1, 1);
        CHECK.due("26 nothing changes", x.ship(2, 2), 2);
        CHECK.due("26 one side", x.wins(0, 3), -2);
        CHECK.due("26 nobody", Check.sea("a1;b1").wins(0, 1), -3);
        CHECK.due("26 like ones", x.wins(1, 1), -1);
        CHECK.due("26 none such", x.wins(0, 4), -1);
        CHECK.dueRow("26 the row stays", x, 1, 1);
        StruckColours y = Check.sea(FOUR);
        CHECK.due("27 suits(0, 2)", y.suits(0, 2), 2);
        CHECK.dueRow("27 suits(0, 2)", y, 3);
        CHECK.due("27 suits(0, 3): the first", y.suits(0, 3), 1);
        CHECK.dueRow("27 suits(0, 3)", y, 0);
        CHECK.due("27 suits(1, 1): one that she loses to, the first", y.suits(1, 1), 0);
        CHECK.dueRow("27 suits(1, 1)", y, 12);
        CHECK.due("27 none", Check.sea("a1;a5").suits(0, 0), -2);
        CHECK.due("27 nobody wins", Check.sea("a1;b1").suits(0, 0), -2);
        CHECK.due("27 none such", y.suits(4, 0), -1);
        CHECK.due("27 another side", y.suits(0, 4), -1);
    }

    private static void goesOverAndPeace() {
        StruckColours x = Check.sea(FOUR);
        x.take(6);
        CHECK.due("28 goesOver(0, 1)", x.goesOver(0, 1), 3);
        CHECK.dueRow("28 goesOver(0, 1)", x, 0, 1, 0, 1, 0, 1);
        CHECK.due("28 it is", x.goesOver(0, 0), 0);
        CHECK.dueRow("28 it is", x);
        CHECK.due("28 by no three", x.goesOver(3, 1), -2);
        CHECK.due("28 none such", x.goesOver(4, 1), -1);
        CHECK.due("28 another side", x.goesOver(0, 4), -1);
        Check.rule(x, "s");
        CHECK.due("28 by two", x.goesOver(0, 1), 2);
        CHECK.dueRow("28 by two", x, 0, 1, 0, 1);
        CHECK.due("28 the lesser ship first", x.goesOver(2, 1), 2);
        CHECK.dueRow("28 the lesser ship first", x, 1, 2, 1, 2);
        CHECK.due("29 by no three", x.peace(), -2);
        StruckColours y = Check.sea("b9;b2;a1;b3");
        Check.rule(y, "-s");
        y.take(6);
        CHECK.due("29 peace", y.peace(), 2);
        CHECK.dueRow("29 peace", y, 0, 2, 0, 2);
        CHECK.due("29 it is", Check.sea("c1;c2").peace(), 0);
        CHECK.due("29 no ships", new StruckColours().peace(), 0);
        y.sews(3, 0, 6);
        y.sews(2, 1, 6);
        CHECK.due("29 by one", y.peace(), 1);
        CHECK.dueRow("29 by one", y, 0, 2);
    }

    private static void campaign() {
        StruckColours x = Check.sea("a5;b3;b1");
        Check.rule(x, "s");
        x.take(6);
        CHECK.due("30 campaign(1)", x.campaign(1), 0);
        CHECK.dueRow("30 campaign(1)", x, 0, 1, 1);
        CHECK.due("30 campaign(2)", x.campaign(2), 1);
        CHECK.dueRow("30 campaign(2)", x, 1, 1, 1);
        CHECK.due("30 campaign(40)", x.campaign(40), 1);
        CHECK.due("30 campaign(0)", x.campaign(0), 0);
        CHECK.dueRow("30 campaign(0)", x, 0, 1, 1);
        CHECK.due("30 campaign(41)", x.campaign(41), -1);
        CHECK.due("30 campaign(-1)", x.campaign(-1), -1);
        Check.rule(x, "n*s");
        CHECK.due("30 nobody on day 0, a day goes by", x.campaign(3), 1);
        CHECK.due("30 nothing changes", x.count(2) + x.count(3), 0);
    }

    private static void halvesAndEvens() {
        StruckColours x = Check.sea("b5;a3;c4;a2");
        CHECK.due("31 halves(0)", x.halves(0), 2);
        CHECK.dueRow("31 the least", x, 3);
        x.sews(2, 0, 6);
        CHECK.due("31 one alone", x.halves(0), 1);
        CHECK.dueRow("31 one alone", x, 4);
        CHECK.due("31 none", x.halves(3), -2);
        CHECK.due("31 another side", x.halves(4), -1);
        CHECK.due("31 no ships", new StruckColours().halves(0), -2);
        CHECK.due("32 evens", x.evens(), 0);
        CHECK.dueRow("32 evens", x, 6);
        StruckColours y = Check.sea("a9;b3;c3");
        CHECK.due("32 evens", y.evens(), 3);
        CHECK.dueRow("32 evens", y, 6);
        StruckColours z = Check.sea("a2;b1;c1;a1");
        CHECK.due("32 evens", z.evens(), 1);
        CHECK.dueRow("32 of as good ones the least", z, 6);
        z.sheet(3, 0, 0, 0);
        CHECK.due("32 no strength", z.evens(), 0);
        CHECK.dueRow("32 no strength", z, 0);
        StruckColours none = new StruckColours();
        CHECK.due("32 no ships", none.evens(), 0);
        CHECK.dueRow("32 no ships", none, 0);
    }

    private static void worth() {
        StruckColours x = Check.sea(FOUR);
        long[] upper = {5, 1, 1, 1};
        long[] lower = {12, 4, 4, 12};
        for (int i = 0; i < 4; i++) {
            CHECK.due("33 worth(" + i + ")", x.worth(i), 0);
            CHECK.dueRow("33 worth(" + i + ")", x, upper[i], lower[i]);
        }
        CHECK.due("33 worth(4)", x.worth(4), -1);
        CHECK.due("33 worth(-1)", x.worth(-1), -1);
        x.sheet(3, 0, 0, 0);
        x.worth(0);
        CHECK.dueRow("33 none ever is", x, 0, 1);
        StruckColours y = Check.sea("a9;b1;c1");
        y.worth(0);
        CHECK.dueRow("33 alone more than half", y, 1, 1);
        y.worth(1);
        CHECK.dueRow("33 of no worth", y, 0, 1);
        StruckColours z = Check.sea("a1;b1");
        z.worth(1);
        CHECK.dueRow("33 just half is not more", z, 1, 2);
    }

    private static void patched() {
        StruckColours x = Check.sea(FOUR);
        x.sews(1, 0, 3);
        CHECK.due("34 patched(0, 4)", x.patched(0, 4), 9);
        CHECK.dueRow("34 patched(0, 4)", x, 2, 12);
        CHECK.due("34 patched(0, 3)", x.patched(0, 3), 11);
        CHECK.due("34 patched(1, 10)", x.patched(1, 10), 0);
        CHECK.dueRow("34 the most that one has", x, 0, 9);
        CHECK.due("34 patched(3, 0)", x.patched(3, 0), 15);
        CHECK.dueRow("34 patched(3, 0)", x, 4, 0);
        CHECK.due("34 patched(0, 13)", x.patched(0, 13), -1);
        CHECK.due("34 patched(0, -1)", x.patched(0, -1), -1);
        CHECK.due("34 patched(4, 0)", x.patched(4, 0), -1);
    }

    private static void sights() {
        StruckColours x = Check.sea(FOUR);
        x.fight(0, 1);
        x.fight(2, 1);
        int[][] seen = {{0, 0}, {1, 4}, {2, 1}, {3, 1}, {4, 1}, {4, 0}, {1, 0}, {3, 2}};
        int[] due = {9, 5, 7, 5, 2, 13, 15, 0};
        for (int i = 0; i < seen.length; i++) {
            CHECK.due("35 seen", x.seen(seen[i][0], seen[i][1]), 1);
            CHECK.due("37 fits, " + seen[i][0] + " " + seen[i][1], x.fits(), due[i]);
            CHECK.dueRow("37 fits", x, Integer.bitCount(due[i]));
            CHECK.due("36 forget", x.forget(), 1);
        }
        x.seen(2, 1);
        CHECK.due("35 two", x.seen(3, 1), 2);
        CHECK.due("37 all of it", x.fits(), 5);
        int[][] bad = {{-1, 0}, {5, 0}, {0, 4}, {0, -1}, {1, 10}, {1, -1}, {2, 4}, {3, 100}, {4, 2}, {4, -1}};
        for (int[] each : bad) {
            CHECK.due("35 seen " + each[0] + " " + each[1], x.seen(each[0], each[1]), -1);
        }
        for (int i = 3; i <= 12; i++) {
            CHECK.due("35 edges", x.seen(i % 2 == 0 ? 1 : 3, i % 2 == 0 ? 9 : 99), i);
        }
        CHECK.due("35 twelve", x.seen(0, 0), -1);
        CHECK.due("36 forget", x.forget(), 12);
        CHECK.due("36 forget", x.forget(), 0);
        CHECK.due("37 nothing seen", x.fits(), 15);
        CHECK.due("37 no ships", new StruckColours().fits(), 0);
    }

    private static void looks() {
        StruckColours x = Check.sea("a1;b1;a1;c1");
        CHECK.due("38 looks", x.looks(), 0);
        CHECK.dueRow("38 looks", x, 2);
        x.sews(0, 3, 1);
        x.seen(0, 0);
        CHECK.due("38 looks", x.looks(), 3);
        CHECK.dueRow("38 looks", x, 1);
        x.seen(0, 1);
        CHECK.due("38 none fits", x.looks(), -2);
        CHECK.due("38 no ships", new StruckColours().looks(), -2);
    }

    private static void lawsOfGoingOver() {
        StruckColours x = new StruckColours();
        CHECK.due("41 laws", x.laws(), 169);
        CHECK.dueRow("41 laws", x, 0, 0);
        CHECK.due("39 told", x.told(5, 7, 1), 1);
        CHECK.due("41 laws", x.laws(), 109);
        CHECK.due("39 told", x.told(6, 6, 0), 2);
        CHECK.due("41 laws", x.laws(), 24);
        CHECK.dueRow("41 laws", x, 0, 1);
        CHECK.due("42 asks", x.asks(), 65);
        CHECK.dueRow("42 asks", x, 12);
        CHECK.due("39 told", x.told(6, 6, 1), 3);
        CHECK.due("41 none", x.laws(), 0);
        CHECK.dueRow("41 none", x);
        CHECK.due("42 none fits", x.asks(), -2);
        int[][] bad = {{13, 0, 0}, {-1, 0, 0}, {0, 13, 0}, {0, -1, 0}, {7, 6, 0}, {12, 1, 0}, {0, 0, 2}, {0, 0, -1}};
        for (int[] each : bad) {
            CHECK.due("39 told others", x.told(each[0], each[1], each[2]), -1);
        }
        CHECK.due("40 deny", x.deny(), 3);
        CHECK.due("40 deny", x.deny(), 0);
        for (int i = 1; i <= 12; i++) {
            CHECK.due("39 told", x.told(i, 12 - i, 0), i);
        }
        CHECK.due("39 twelve", x.told(12, 0, 0), -1);
        // Nothing is told of o 0: t is 0 or 1, and d is above 10 (12 less 2 times 1).
        CHECK.due("41 laws", x.laws(), 4);
        CHECK.dueRow("41 laws", x, 0, 11);
    }

    private static void treaty() {
        StruckColours x = new StruckColours();
        CHECK.due("43 treaty(0, 0)", x.treaty(0, 0), 0);
        CHECK.dueRow("43 nothing, if he loses", x);
        CHECK.due("43 treaty(7, 4)", x.treaty(7, 4), 0);
        CHECK.due("43 treaty(17, 28)", x.treaty(17, 28), 0);
        CHECK.due("43 treaty(3, 3)", x.treaty(3, 3), 1);
        // To (1, 2) and (2, 1) he can't, to (0, 0) by three of both.
        CHECK.dueRow("43 treaty(3, 3)", x, 3, 3);
        CHECK.due("43 treaty(2, 3)", x.treaty(2, 3), 1);
        CHECK.dueRow("43 the least", x, 0, 2);
        CHECK.due("43 treaty(3, 1)", x.treaty(3, 1), 1);
        CHECK.dueRow("43 from the first alone", x, 1, 0);
        CHECK.due("43 treaty(30, 30)", x.treaty(30, 30), 1);
        CHECK.dueRow("43 treaty(30, 30)", x, 30, 30);
        CHECK.due("43 treaty(31, 0)", x.treaty(31, 0), -1);
        CHECK.due("43 treaty(0, 31)", x.treaty(0, 31), -1);
        CHECK.due("43 treaty(-1, 0)", x.treaty(-1, 0), -1);
        CHECK.due("43 treaty(0, -1)", x.treaty(0, -1), -1);
        CHECK.dueRow("43 the row stays", x, 30, 30);
    }

    private static void series() {
        StruckColours x = new StruckColours();
        int[][] asked = {{1, 1, 3}, {2, 1, 5}, {1, 2, 5}, {2, 2, 3}, {8, 8, 0}, {8, 8, 10}, {8, 1, 1}, {1, 8, 1}, {8, 8, 5}};
        long[][] due = {{3, 10}, {1, 4}, {3, 4}, {27, 125}, {0, 1}, {1, 1}, {1, 100000000}, {56953279, 100000000}, {1, 2}};
        for (int i = 0; i < asked.length; i++) {
            CHECK.due("44 series", x.series(asked[i][0], asked[i][1], asked[i][2]), 0);
            CHECK.dueRow("44 series " + i, x, due[i]);
        }
        int[][] bad = {{0, 1, 1}, {9, 1, 1}, {1, 0, 1}, {1, 9, 1}, {1, 1, -1}, {1, 1, 11}};
        for (int[] each : bad) {
            CHECK.due("44 others", x.series(each[0], each[1], each[2]), -1);
        }
        CHECK.dueRow("44 the row stays", x, 1, 2);
    }

    private static void rests() {
        StruckColours x = new StruckColours();
        CHECK.due("45 rests(0)", x.rests(0), 1);
        CHECK.dueRow("45 rests(0)", x, 0, 0);
        // v of 2: like ones have 1 less x, one yard more has 2 less x less 1: as much.
        CHECK.due("45 rests(2)", x.rests(2), 4);
        CHECK.dueRow("45 rests(2)", x, 0, 0);
        // v of 6: one yard more is worth 3, till both have so many that none is better.
        CHECK.due("45 none", x.rests(6), 0);
        CHECK.dueRow("45 none", x);
        CHECK.due("45 rests(20)", x.rests(20), 1);
        CHECK.dueRow("45 rests(20)", x, 9, 9);
        CHECK.due("45 rests(21)", x.rests(21), -1);
        CHECK.due("45 rests(-1)", x.rests(-1), -1);
    }

    private static void law() {
        StruckColours x = Check.sea(FOUR);
        CHECK.due("46 0", Check.law(x, "0"), -4);
        CHECK.dueRow("46 0", x, 0, 4);
        CHECK.due("46 0-s", Check.law(x, "0-s"), -3);
        CHECK.dueRow("46 0-s", x, 1, 4);
        Check.rule(x, "0-s");
        CHECK.due("46 none", Check.law(x, ""), 3);
        CHECK.dueRow("46 none", x, 4, 1);
        CHECK.due("46 x", Check.law(x, "x"), -10000);
        CHECK.due("46 s+", Check.law(x, "s+"), -10002);
        CHECK.due("46 more than 40", Check.law(x, "s+".repeat(30)), -10040);
        CHECK.due("46 the text is empty", x.count(11), 0);
        CHECK.dueRow("46 the row stays", x, 4, 1);
        CHECK.due("46 the rule stays", x.force(0, 1), 995);
    }

    private static void years() {
        StruckColours x = new StruckColours();
        CHECK.due("47 no ships", x.years(7, 60), 0);
        CHECK.dueRow("47 no ships", x, 0, 0);
        CHECK.due("47 n of 0", x.years(1, 0), -1);
        CHECK.due("47 n of 61", x.years(1, 61), -1);
        // R of 0: 12345, by 65536: 0: a day. Then 0xD3DC167E: 54236 % 4 is 0: a day.
        StruckColours y = Check.sea("a5;b3");
        y.sheet(2, 2, 0, 0);
        CHECK.due("47 two days", y.years(0, 2), 0);
        CHECK.dueRow("47 two days", y, 4, 0);
        CHECK.due("47 one day", y.years(0, 1), 0);
        CHECK.dueRow("47 one day", y, 2, 0);
        CHECK.due("47 nothing changes", y.count(4) + y.count(2), 0);
    }

    private static void kept() {
        StruckColours x = Check.sea(FOUR);
        CHECK.due("49 nothing kept", x.again(0), false);
        CHECK.due("48 keep(0)", x.keep(0), true);
        x.fight(0, 1);
        x.days(1);
        x.take(5);
        CHECK.due("48 keep(1)", x.keep(1), true);
        CHECK.due("48 keep(2)", x.keep(2), false);
        CHECK.due("48 keep(-1)", x.keep(-1), false);
        CHECK.due("49 again(0)", x.again(0), true);
        CHECK.due("49 won, day, parts", x.count(5) + x.count(2) + x.count(12), 0);
        CHECK.due("49 take stays", x.count(1), 5);
        CHECK.due("49 undo", x.undo(), -1);
        x.yields(0, 3);
        CHECK.due("49 again(1)", x.again(1), true);
        CHECK.due("49 won", x.ship(0, 7), 1);
        CHECK.due("49 day", x.count(2), 1);
        CHECK.due("49 side", x.ship(0, 2), 0);
        CHECK.due("49 once more", x.again(0), true);
        CHECK.due("49 again(2)", x.again(2), false);
        CHECK.due("49 again(-1)", x.again(-1), false);
        Check.ships(x, "");
        Check.ships(x, "x");
        CHECK.due("49 no ships came", x.again(1), true);
        Check.ships(x, "d1");
        CHECK.due("49 ships came", x.again(0), false);
        CHECK.due("49 ships came", x.again(1), false);
        x.keep(1);
        CHECK.due("49 kept since", x.again(1), true);
    }

    private static void count() {
        StruckColours x = Check.sea(FOUR);
        x.fight(0, 1);
        x.sews(2, 3, 7);
        x.days(1);
        x.days(2);
        x.undo();
        x.seen(0, 0);
        x.seen(1, 1);
        x.told(1, 1, 1);
        x.take(2);
        x.fleet(0);
        x.sign(0);
        long[] due = {4, 2, 1, 1, 14, 1, 1, 2, 1, 3, 2, 4, 2 + 4, 10};
        for (int what = 0; what < due.length; what++) {
            CHECK.due("50 count(" + what + ")", x.count(what), due[what]);
        }
        CHECK.due("50 count(14)", x.count(14), -1);
        CHECK.due("50 count(-1)", x.count(-1), -1);
    }

    private static void row() {
        StruckColours x = Check.sea(FOUR);
        CHECK.dueThrows("51 nothing told", () -> x.row(0));
        x.fleet(0);
        CHECK.due("51 row(0)", x.row(0), 7);
        CHECK.due("51 row(1)", x.row(1), 24);
        CHECK.dueThrows("51 row(2)", () -> x.row(2));
        CHECK.dueThrows("51 row(-1)", () -> x.row(-1));
        x.series(8, 8, 3);
        CHECK.due("51 a long one", x.row(1), 62500000000000L);
    }

    private static void questionsChangeNothing() {
        StruckColours x = Check.sea("a5;b3;c4;a2;d9;b9");
        x.fight(0, 1);
        x.sews(4, 0, 4);
        long[] before = all(x);
        x.rivals(0);
        x.duel(0, 1, 20);
        x.tempts(1);
        x.wins(4, 5);
        x.suits(4, 1);
        x.goesOver(4, 1);
        x.peace();
        x.campaign(40);
        x.later(4, 9);
        x.whole(4);
        x.years(5, 60);
        x.worth(1);
        Check.law(x, "s");
        long[] after = all(x);
        for (int i = 0; i < before.length; i++) {
            CHECK.due("questions change nothing: " + i, after[i], before[i]);
        }
    }

    private static long[] all(StruckColours x) {
        long[] all = new long[64];
        for (int ship = 0; ship < 6; ship++) {
            for (int what = 0; what < 9; what++) {
                all[9 * ship + what] = x.ship(ship, what);
            }
        }
        for (int what = 0; what < 10; what++) {
            all[54 + what] = x.count(what);
        }
        return all;
    }
}
