import java.util.function.ToLongFunction;

/** Each sentence of "Terms" that names a boundary case. */
public final class TermsEdgesTest {
    private static final Check CHECK = new Check();

    public static void main(String[] args) {
        ships();
        lines();
        atFirst();
        mostOvers();
        signsOfTheRule();
        comparisons();
        sumsAndProducts();
        minus();
        numbers();
        brackets();
        things();
        wrapAround();
        fights();
        leastAndMost();
        goingOver();
        daysOfShips();
        daysOfFlags();
        rows();
        numbersOfRows();
        CHECK.ends();
    }

    private static void ships() {
        CHECK.says("SHIPS 0 .. (at most 6)");
        StruckColours x = new StruckColours();
        for (int i = 0; i < 6; i++) {
            CHECK.due("ships()", Check.ships(x, "a1"), 1);
            CHECK.due("count(0)", x.count(0), i + 1);
        }
        CHECK.due("a seventh", Check.ships(x, "a1"), -1);
        CHECK.due("count(0)", x.count(0), 6);
        CHECK.due("the last one is 5", x.ship(5, 0), 1);
        CHECK.dueThrows("6", () -> x.ship(6, 0));

        CHECK.says("MIGHT 1 .. 9; a digit (MIGHT, not 0)");
        StruckColours y = new StruckColours();
        CHECK.due("0", Check.ships(y, "a0"), -2);
        CHECK.due("1", Check.ships(y, "a1"), 1);
        CHECK.due("9", Check.ships(y, "a9"), 1);
        CHECK.due("the sign behind 9", Check.ships(y, "a:"), -2);
        CHECK.due("the sign ahead of 0", Check.ships(y, "a/"), -2);
        CHECK.due("MIGHT", 10 * y.ship(0, 0) + y.ship(1, 0), 19);

        CHECK.says("STRENGTH 0 .. MIGHT (at first MIGHT)");
        CHECK.due("at first", 10 * y.ship(0, 1) + y.ship(1, 1), 19);

        CHECK.says("a flag of 12 PARTS, each of a SIDE; SIDE, of which all PARTS are");
        StruckColours z = Check.sea("a1;b2;c3;d4");
        for (int ship = 0; ship < 4; ship++) {
            CHECK.due("SIDE", z.ship(ship, 2), ship);
            CHECK.due("twelve of her SIDE", z.ship(ship, 3 + ship), 12);
            CHECK.due("all", z.ship(ship, 3) + z.ship(ship, 4) + z.ship(ship, 5) + z.ship(ship, 6), 12);
        }

        CHECK.says("WON, LOST 0 .. 99 (at first 0)");
        CHECK.due("at first", z.ship(3, 7) + z.ship(3, 8), 0);
    }

    private static void lines() {
        CHECK.says("a text of at most 17 signs");
        CHECK.due("just 17", Check.ships(new StruckColours(), "a1;b2;c3;d4;a5;b6"), 6);
        CHECK.due("18", Check.ships(new StruckColours(), "a1;b2;c3;d4;a5;b6;"), -18);

        CHECK.says("LINES with ; between");
        CHECK.due("none behind", Check.ships(new StruckColours(), "a1;"), -4);
        CHECK.due("none ahead", Check.ships(new StruckColours(), ";a1"), -1);
        CHECK.due("not two", Check.ships(new StruckColours(), "a1;;b2"), -4);
        CHECK.due("not without", Check.ships(new StruckColours(), "a1b2"), -3);

        CHECK.says("a letter a .. d");
        CHECK.due("the sign ahead of a", Check.ships(new StruckColours(), "`1"), -1);
        CHECK.due("a", Check.ships(new StruckColours(), "a1"), 1);
        CHECK.due("d", Check.ships(new StruckColours(), "d1"), 1);
        CHECK.due("the sign behind d", Check.ships(new StruckColours(), "e1"), -1);
        CHECK.due("a great letter", Check.ships(new StruckColours(), "A1"), -1);
        CHECK.due("sign 0", Check.ships(new StruckColours(), "\0" + "1"), -1);
        CHECK.due("sign 255", Check.ships(new StruckColours(), (char) 255 + "1"), -1);
        CHECK.due("a with its highest bit", Check.ships(new StruckColours(), (char) ('a' + 128) + "1"), -1);
    }

    private static void atFirst() {
        CHECK.says("TAKE 1 .. 6 (at first 3)");
        StruckColours x = Check.sea("a5;b3");
        CHECK.due("count(1)", x.count(1), 3);
        x.fight(0, 1);
        CHECK.due("three PARTS", Check.flag(x, 0), 9030000);

        CHECK.says("DAY (at first 0)");
        CHECK.due("count(2)", new StruckColours().count(2), 0);

        CHECK.says("OVERS 0 .. 9999 (at first 0)");
        CHECK.due("count(3)", new StruckColours().count(3), 0);
    }

    /** More calls than the 512 of the document; by fewer OVERS can't be so many. */
    private static void mostOvers() {
        CHECK.says("OVERS is 1 more (9999 at most)");
        StruckColours x = Check.sea("a1");
        x.sews(0, 1, 7);
        // She has 5 and 7, and goes over by each two: fifteen times a war.
        String even = "s0a2s0b2".repeat(7) + "s0a2";
        String odd = "s0b2s0a2".repeat(7) + "s0b2";
        for (int i = 0; i < 666; i++) {
            Check.war(x, i % 2 == 0 ? even : odd);
        }
        CHECK.due("count(3)", x.count(3), 1 + 666 * 15);
        Check.war(x, even);
        CHECK.due("count(3)", x.count(3), 9999);
        CHECK.due("row(1) of war()", x.row(1), 9999);
        CHECK.due("she still goes over", x.sews(0, 1, 2), 1);
        CHECK.due("count(3)", x.count(3), 9999);
        x.undo();
        CHECK.due("count(3) as ahead of it", x.count(3), 9999);
        x.undo();
        CHECK.due("count(3) as ahead of it", x.count(3), 9991);
    }

    private static void signsOfTheRule() {
        CHECK.says("THE RULE is a text of at most 40 signs");
        StruckColours x = Check.sea("a5;b3");
        CHECK.due("just 40", Check.rule(x, "1+".repeat(19) + "11"), 0);
        CHECK.due("its FORCE", x.force(0, 1), 1030);
        CHECK.due("41", Check.rule(x, "1+".repeat(20) + "1"), -41);
        CHECK.due("the old one stays", x.force(0, 1), 1030);

        CHECK.says("(at first none: s*2+o-e)");
        StruckColours y = Check.sea("a5;b3");
        CHECK.due("force(0, 1)", y.force(0, 1), 1022);
        y.sews(0, 1, 2);
        CHECK.due("force(0, 1)", y.force(0, 1), 1018);
    }

    private static void dueForce(String rule, int want) {
        StruckColours x = Check.sea("a5;b3");
        CHECK.due("rule() of " + rule, Check.rule(x, rule), 0);
        CHECK.due("FORCE by " + rule, x.force(0, 1) - 1000, want);
    }

    private static void dueFault(String rule, int place) {
        CHECK.due("rule() of " + rule, Check.rule(Check.sea("a5;b3"), rule), -1 - place);
    }

    private static void comparisons() {
        CHECK.says("< > = bind least");
        dueForce("1+2<4", 1);
        dueForce("4>1+2", 1);
        dueForce("2*3=1+5", 1);
        dueForce("0-1<0", 1);
        dueForce("1<1+1", 1);

        CHECK.says("< > = 1 or 0");
        dueForce("2<3", 1);
        dueForce("3<3", 0);
        dueForce("4<3", 0);
        dueForce("2>3", 0);
        dueForce("3>3", 0);
        dueForce("4>3", 1);
        dueForce("2=3", 0);
        dueForce("3=3", 1);

        CHECK.says("not one behind the other");
        dueFault("1<2<3", 3);
        dueFault("1<2>3", 3);
        dueFault("1=2=3", 3);
        dueFault("1>2+3*4<5", 7);
        dueFault("(1<2)=1=1", 7);
        dueFault("1<(2<3<4)", 6);
        dueFault("1<<2", 2);
        dueForce("(1<2)<3", 1);
        dueForce("3<(1<2)", 0);
        dueForce("(1<2)+(1<2)", 2);
        dueForce("1=(1=(1=(1=(1=1))))", 1);
    }

    private static void sumsAndProducts() {
        CHECK.says("+ - (from the left)");
        dueForce("10-3-2", 5);
        dueForce("10-3+2", 9);

        CHECK.says("* / (from the left)");
        dueForce("24/4/2", 3);
        dueForce("24/4*2", 12);
        dueForce("5/2*2", 4);
        dueForce("7*3/2", 10);
        dueForce("2+3*4-6/2", 11);

        CHECK.says("by 0: 0");
        dueForce("7/0", 0);
        dueForce("0/0", 0);
        dueForce("-7/0", 0);
        dueForce("1+7/(s-s)", 1);
        dueForce("7/0/0", 0);
        dueForce("5/0*9+2", 2);

        CHECK.says("cut to 0");
        dueForce("7/2", 3);
        dueForce("-7/2", -3);
        dueForce("7/-2", -3);
        dueForce("-7/-2", 3);
        dueForce("(0-1)/2", 0);
    }

    private static void minus() {
        CHECK.says("then - ahead of a thing (any many)");
        dueForce("-5", -5);
        dueForce("--5", 5);
        dueForce("-".repeat(39) + "5", -5);
        dueForce("-".repeat(38) + "5", 5);
        dueForce("3--2", 5);
        dueForce("3*-2", -6);
        dueForce("3---2", 1);
        dueForce("-(2+3)", -5);
        dueForce("1<-1", 0);
        dueFault("-", 1);
        dueFault("3-", 2);
        dueFault("-+3", 1);
        dueFault("-".repeat(40) + "5", 40);
    }

    private static void numbers() {
        CHECK.says("a NUMBER of 1 to 3 digits");
        dueForce("0", 0);
        dueForce("9", 9);
        dueForce("10", 10);
        dueForce("999", 999);
        dueForce("007", 7);
        dueFault("1000", 3);
        dueFault("0000", 3);
        dueFault("s+1234", 5);
        dueFault("s1", 1);
        dueFault("1s", 1);
        dueFault("1+s2", 3);
        dueFault("12*(o)3", 6);
        dueFault("(1)1", 3);
        dueFault("1(1)", 1);
        dueFault("1 2", 1);
        dueFault(":", 0);
    }

    private static void brackets() {
        CHECK.says("an EXPRESSION in ( ) (at most 4 in one another)");
        dueForce("((((7))))", 7);
        dueForce("((((1))))+((((2))))", 3);
        dueForce("(1)+(1)+(1)+(1)+(1)+(1)", 6);
        dueFault("(((((7)))))", 4);
        dueFault("((((1))))+(((((2)))))", 14);
        dueFault("((((1)+((2", 8);
        dueFault("()", 1);
        dueFault("(1", 2);
        dueFault("1)", 1);
        dueFault("(1))", 3);
        dueFault("((((1)))))", 9);
        dueFault("(1+)", 3);
        dueFault(")", 0);
    }

    private static void things() {
        CHECK.says("s, o, e, w, l, n and no other letter");
        for (char c = 0; c < 256; c++) {
            boolean is = "soewln0123456789".indexOf(c) >= 0;
            int ends = "-(".indexOf(c) >= 0 ? -2 : -1;
            CHECK.due("rule() of sign " + (int) c, Check.rule(new StruckColours(), "" + c), is ? 0 : ends);
        }
        for (char c = 0; c < 256; c++) {
            int due = "+-*/<>=".indexOf(c) >= 0 ? -3 : -2;
            CHECK.due("rule() of s and sign " + (int) c, Check.rule(new StruckColours(), "s" + c), due);
        }

        CHECK.says("e PARTS of her flag of the other one's SIDE");
        StruckColours x = Check.sea("a5;b3;a1");
        x.sews(0, 1, 2);
        Check.rule(x, "e");
        CHECK.due("of another SIDE", x.force(0, 1), 1002);
        CHECK.due("of her own SIDE", x.force(0, 2), 1010);
        CHECK.due("none", x.force(1, 0), 1000);

        CHECK.says("n DAY by 7 (rest)");
        Check.rule(x, "n");
        int[] days = {0, 6, 1, 6, 1};
        int[] rests = {0, 6, 0, 6, 0};
        for (int i = 0; i < days.length; i++) {
            x.days(days[i]);
            CHECK.due("on DAY " + x.count(2), x.force(0, 1), 1000 + rests[i]);
        }
    }

    private static void wrapAround() {
        CHECK.says("As ints: FORCE");
        // 512 * 512 * 512 * 16 is 2147483648: the least int.
        dueForce("512*512*512*16", -999);
        dueForce("512*512*512*16-1", 999);
        dueForce("512*512*512*16<0", 1);
        dueForce("-(512*512*512*16)", -999);
        dueForce("512*512*512*16/-1", -999);
        dueForce("512*512*512*32", 0);
        dueForce("512*512*512*32+7", 7);
        StruckColours x = Check.sea("a5;b3");
        // By 5: 2684354560, below 0 as an int; by 3: 1610612736.
        Check.rule(x, "s*512*512*512*4");
        CHECK.due("who wins", x.wins(0, 1), 1);
    }

    private static void fights() {
        CHECK.says("with like FORCES nobody does, and nothing changes");
        StruckColours x = Check.sea("a5;b5");
        CHECK.due("fight(0, 1)", x.fight(0, 1), -3);
        CHECK.due("flags", Check.flag(x, 0) + Check.flag(x, 1), 12120000);
        CHECK.due("STRENGTH, WON, LOST", 10000 * x.count(4) + 100 * x.count(5) + x.count(6), 100000);

        CHECK.says("the one with more FORCE against the other one wins");
        x.sheet(2, 2, 5, -1);
        CHECK.due("by one more", x.fight(1, 0), 0);
        StruckColours far = Check.sea("a2;b1");
        Check.rule(far, "s*999*999");
        CHECK.due("above 999, not put to it", far.fight(0, 1), 0);

        CHECK.says("TAKE PARTS of her own SIDE (as many as there are) become PARTS of the loser's SIDE");
        StruckColours y = Check.strongSea("a9;b1", 5);
        y.sews(0, 2, 4);
        y.sews(0, 3, 4);
        y.fight(0, 1);
        CHECK.due("four of four by TAKE 5", Check.flag(y, 0), 40404);
        StruckColours z = Check.strongSea("a9;b1", 4);
        z.sews(0, 2, 4);
        z.sews(0, 3, 4);
        z.fight(0, 1);
        CHECK.due("four of four by TAKE 4", Check.flag(z, 0), 40404);
        StruckColours u = Check.strongSea("a9;b1", 3);
        u.sews(0, 2, 4);
        u.sews(0, 3, 4);
        u.fight(0, 1);
        CHECK.due("three of four by TAKE 3", Check.flag(u, 0), 1030404);
        CHECK.due("the loser's flag stays", Check.flag(u, 1), 120000);
    }

    private static void leastAndMost() {
        CHECK.says("STRENGTH of the loser is 1 less (0 at least)");
        StruckColours x = Check.strongSea("a9;b1", 1);
        x.fight(0, 1);
        CHECK.due("from 1", x.ship(1, 1), 0);
        x.fight(0, 1);
        CHECK.due("from 0", x.ship(1, 1), 0);
        CHECK.due("LOST goes on", x.ship(1, 8), 2);

        CHECK.says("WON is 1 more, LOST 1 more (99 at most, both)");
        StruckColours y = Check.strongSea("a9;b1", 1);
        for (int i = 0; i < 98; i++) {
            y.fight(0, 1);
            y.days(1);
        }
        CHECK.due("98", 100 * y.ship(0, 7) + y.ship(1, 8), 9898);
        for (int i = 0; i < 3; i++) {
            CHECK.due("fight(0, 1)", y.fight(0, 1), 0);
            CHECK.due("99 at most", 100 * y.ship(0, 7) + y.ship(1, 8), 9999);
        }
        y.undo();
        CHECK.due("undone", 100 * y.ship(0, 7) + y.ship(1, 8), 9999);
        y.undo();
        y.undo();
        CHECK.due("undone", 100 * y.ship(0, 7) + y.ship(1, 8), 9898);
    }

    private static void goingOver() {
        CHECK.says("GO OVER: if there are more PARTS of another SIDE on her flag than of her own");
        StruckColours x = Check.sea("a1");
        CHECK.due("six and six", x.sews(0, 1, 6), 0);
        CHECK.due("OVERS", x.count(3), 0);
        CHECK.due("five and six and one", x.sews(0, 2, 1), 1);
        CHECK.due("OVERS", x.count(3), 1);

        CHECK.says("she is of the SIDE of which there are the most");
        StruckColours y = Check.sea("a1");
        y.sews(0, 1, 3);
        y.sews(0, 2, 4);
        CHECK.due("five, three, four", y.ship(0, 2), 0);
        CHECK.due("three, three, four, two", y.sews(0, 3, 2), 2);

        CHECK.says("(of equal ones the first)");
        StruckColours z = Check.sea("c1");
        z.sews(0, 3, 4);
        z.sews(0, 1, 4);
        CHECK.due("four, four, four", z.ship(0, 2), 2);
        CHECK.due("one, four, three, four", z.sews(0, 0, 1), 1);
        CHECK.due("OVERS", z.count(3), 1);

        CHECK.says("Then each of both, the winner first, may GO OVER");
        StruckColours u = Check.strongSea("a9;b1", 6);
        u.fight(0, 1);
        CHECK.due("six and six", u.ship(0, 2), 0);
        u.take(1);
        u.fight(0, 1);
        CHECK.due("five and seven", u.ship(0, 2), 1);
        CHECK.due("the loser stays", u.ship(1, 2), 1);
        CHECK.due("OVERS", u.count(3), 1);
    }

    private static void daysOfShips() {
        CHECK.says("A DAY: STRENGTH of each ship is 1 more (MIGHT at most)");
        StruckColours x = Check.sea("a3;b1");
        CHECK.due("at MIGHT", x.days(1), 4);
        x.sheet(3, 0, 0, 0);
        CHECK.due("from 0", x.days(1), 2);
        CHECK.due("one is at MIGHT", x.days(1), 3);
        CHECK.due("both are", x.days(1), 4);
        CHECK.due("no more", x.days(1), 4);

        CHECK.says("DAY is 1 more");
        CHECK.due("count(2)", x.count(2), 5);
        StruckColours none = new StruckColours();
        none.days(1);
        CHECK.due("without SHIPS, too", none.count(2), 1);
    }

    private static void daysOfFlags() {
        CHECK.says("on each flag on which there are PARTS of other SIDES than her own");
        StruckColours x = Check.sea("b1;c1");
        x.sews(1, 0, 1);
        x.days(1);
        CHECK.due("none", Check.flag(x, 0), 120000);
        CHECK.due("the last one", Check.flag(x, 1), 1200);
        x.days(1);
        CHECK.due("none then", Check.flag(x, 1), 1200);

        CHECK.says("one PART of that other SIDE of which there are the fewest, but some");
        StruckColours y = Check.sea("c1");
        y.sews(0, 0, 3);
        y.sews(0, 3, 2);
        y.days(1);
        CHECK.due("of d, of b there are none", Check.flag(y, 0), 3000801);
        y.days(1);
        CHECK.due("of d, still the fewest", Check.flag(y, 0), 3000900);
        y.days(1);
        CHECK.due("of a, the only one", Check.flag(y, 0), 2001000);

        CHECK.says("of equal ones the first becomes one of her own SIDE");
        StruckColours z = Check.sea("b1");
        z.sews(0, 3, 2);
        z.sews(0, 2, 2);
        z.sews(0, 0, 2);
        z.days(1);
        CHECK.due("of a", Check.flag(z, 0), 1070202);
        z.days(1);
        CHECK.due("of a", Check.flag(z, 0), 80202);
        z.days(1);
        CHECK.due("of c", Check.flag(z, 0), 90102);
        StruckColours own = Check.sea("a1");
        own.sews(0, 3, 6);
        own.days(1);
        CHECK.due("not of her own, though as few", Check.flag(own, 0), 7000005);
    }

    private static void dueNumbers(String call, ToLongFunction<StruckColours> of, int many) {
        StruckColours x = Check.strongSea("a5;b3;c4;a2;d1;b9", 6);
        x.sews(0, 1, 6);
        x.order(0);
        CHECK.due(call + " tells", of.applyAsLong(x) >= 0, true);
        CHECK.due(call + ": numbers of the ROW", x.count(10), many);
    }

    private static void numbersOfRows() {
        CHECK.says("ROW: numbers told last, and none of those told before");
        dueNumbers("days", x -> x.days(1), 4);
        dueNumbers("war", StruckColours::war, 2);
        dueNumbers("fleet", x -> x.fleet(0), 2);
        dueNumbers("share", x -> x.share(0), 2);
        dueNumbers("later", x -> x.later(0, 1), 4);
        dueNumbers("whole", x -> x.whole(0), 1);
        dueNumbers("sisters", StruckColours::sisters, 2);
        dueNumbers("motley", StruckColours::motley, 2);
        dueNumbers("order", x -> x.order(1), 6);
        dueNumbers("rivals", x -> x.rivals(0), 2);
        dueNumbers("duel", x -> x.duel(0, 1, 1), 3);
        dueNumbers("tempts", x -> x.tempts(1), 1);
        dueNumbers("wins, by the first ship", x -> x.wins(0, 1), 2);
        dueNumbers("suits, with the first ship", x -> x.suits(1, 1), 1);
        dueNumbers("goesOver", x -> x.goesOver(0, 0), 0);
        dueNumbers("goesOver", x -> x.goesOver(0, 1), 2);
        dueNumbers("campaign", x -> x.campaign(1), 6);
        dueNumbers("halves", x -> x.halves(0), 1);
        dueNumbers("evens", StruckColours::evens, 1);
        dueNumbers("worth", x -> x.worth(0), 2);
        dueNumbers("patched", x -> x.patched(0, 1), 2);
        dueNumbers("fits", StruckColours::fits, 1);
        dueNumbers("looks", StruckColours::looks, 1);
        dueNumbers("laws", StruckColours::laws, 2);
        dueNumbers("asks", StruckColours::asks, 1);
        dueNumbers("treaty", x -> x.treaty(1, 1), 2);
        dueNumbers("treaty that is lost", x -> x.treaty(1, 2), 0);
        dueNumbers("series", x -> x.series(1, 1, 1), 2);
        dueNumbers("rests", x -> x.rests(0), 2);
        dueNumbers("law", x -> x.law() + 10000, 2);
        dueNumbers("years", x -> x.years(1, 1), 2);
        StruckColours all = Check.sea("a1;a1");
        all.order(0);
        all.peace();
        CHECK.due("peace: numbers of the ROW", all.count(10), 0);
    }

    private static void rows() {
        CHECK.says("ROW: numbers told last by a call that says so");
        StruckColours x = Check.sea("a5;b3");
        CHECK.due("none at first", x.count(10), 0);
        x.fleet(0);
        x.fight(0, 1);
        x.undo();
        x.force(0, 1);
        x.count(0);
        x.take(2);
        x.seen(0, 0);
        x.told(1, 1, 1);
        x.forget();
        x.deny();
        x.keep(0);
        x.again(0);
        x.sheet(2, 2, 1, 1);
        x.sews(0, 1, 1);
        x.yields(0, 1);
        x.sign(0);
        x.end(0);
        x.ships();
        x.rule();
        CHECK.dueRow("calls that say nothing of it", x, 5, 12);
        x.whole(0);
        CHECK.dueRow("a shorter one", x, 1);

        CHECK.says("Fractions are told in lowest terms, upper and lower number (0 by 1)");
        StruckColours y = Check.sea("a1;b1;b1");
        y.share(1);
        CHECK.dueRow("24 of 36", y, 2, 3);
        y.share(2);
        CHECK.dueRow("0 of 36", y, 0, 1);
        StruckColours z = Check.sea("b1");
        z.share(1);
        CHECK.dueRow("12 of 12", z, 1, 1);

        CHECK.says("Rows of numbers are compared from the first on");
        StruckColours u = Check.sea("a1;b1;b1;a1");
        CHECK.due("sisters()", u.sisters(), 0);
        CHECK.dueRow("0 3 is less than 1 2", u, 0, 3);
    }
}
