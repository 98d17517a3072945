import java.util.Arrays;

/** Each sentence of promises 16 to 34 that names a boundary case. */
public final class QuestionsEdgesTest {
    private static final Check CHECK = new Check();
    private static final String FOUR = "a5;b3;c4;a2";
    private static final String SIX = "a1;b1;c1;d1;a1;b1";

    public static void main(String[] args) {
        fleet();
        share();
        later();
        whole();
        sisters();
        motley();
        order();
        rivals();
        duel();
        tempts();
        wins();
        suits();
        goesOver();
        peace();
        campaign();
        halves();
        evens();
        worth();
        patched();
        CHECK.ends();
    }

    private static void fleet() {
        CHECK.says("16: SHIPS of a SIDE (0 .. 3; bits)");
        StruckColours x = Check.sea("a5;b3;c4;a2;d1;d9");
        int[] bits = {9, 2, 4, 48};
        for (int side = 0; side < 4; side++) {
            CHECK.due("fleet(" + side + ")", x.fleet(side), bits[side]);
        }
        CHECK.due("of none", Check.sea("a1").fleet(3), 0);
        CHECK.due("without SHIPS", new StruckColours().fleet(3), 0);

        CHECK.says("16: the ROW: STRENGTH of these together, PARTS of that SIDE on all flags");
        StruckColours y = Check.sea("a5;b3");
        y.sews(0, 2, 2);
        y.fleet(2);
        CHECK.dueRow("of none, but PARTS", y, 0, 2);
        StruckColours none = new StruckColours();
        none.fleet(0);
        CHECK.dueRow("without SHIPS", none, 0, 0);

        CHECK.says("16: NONE: another side");
        CHECK.dueLimits("fleet", x::fleet, 0, 3);
        CHECK.due("without SHIPS", none.fleet(4), -1);
    }

    private static void share() {
        CHECK.says("17: NONE: another side");
        StruckColours x = Check.sea(FOUR);
        CHECK.dueLimits("share", x::share, 0, 3);

        CHECK.says("17: NONE: no SHIPS");
        for (int side = 0; side < 4; side++) {
            CHECK.due("share(" + side + ")", new StruckColours().share(side), -1);
        }

        CHECK.says("17: the fraction, from nothing to all");
        StruckColours y = Check.sea("a1");
        CHECK.due("share(0)", y.share(0), 0);
        CHECK.dueRow("all", y, 1, 1);
        y.sews(0, 1, 1);
        CHECK.due("share(1)", y.share(1), 0);
        CHECK.dueRow("one of twelve", y, 1, 12);
        CHECK.due("share(2)", y.share(2), 0);
        CHECK.dueRow("nothing", y, 0, 1);
        StruckColours six = Check.sea("a1;a1;a1;a1;a1;a1");
        six.sews(5, 3, 1);
        six.share(3);
        CHECK.dueRow("one of seventy-two", six, 1, 72);
    }

    private static void later() {
        CHECK.says("18: in n DAYS (0 .. 99)");
        StruckColours x = Check.sea("c5;a1");
        x.sews(0, 0, 3);
        x.sews(0, 3, 3);
        CHECK.dueLimits("later", v -> x.later(0, v), 0, 99);
        CHECK.due("0", x.later(0, 0), 2);
        CHECK.dueRow("0", x, 3, 0, 6, 3);
        CHECK.due("1", x.later(0, 1), 2);
        CHECK.dueRow("1", x, 2, 0, 7, 3);
        CHECK.due("5", x.later(0, 5), 2);
        CHECK.dueRow("5", x, 0, 0, 11, 1);
        CHECK.due("6", x.later(0, 6), 2);
        CHECK.dueRow("6", x, 0, 0, 12, 0);
        CHECK.due("99", x.later(0, 99), 2);
        CHECK.dueRow("99", x, 0, 0, 12, 0);

        CHECK.says("18: NONE: others (none such)");
        CHECK.dueLimits("later", v -> x.later(v, 1), 0, 1);
        CHECK.due("without SHIPS", new StruckColours().later(0, 0), -1);
    }

    private static void whole() {
        CHECK.says("19: In how many DAYS (0: it is .. 12)");
        StruckColours x = Check.sea("b1");
        CHECK.due("it is", x.whole(0), 0);
        CHECK.dueRow("it is", x, 1);
        x.sews(0, 0, 3);
        x.sews(0, 2, 3);
        x.sews(0, 3, 3);
        CHECK.due("three of each", x.whole(0), 9);
        CHECK.dueRow("three of each", x, 1);
        for (int left = 8; left >= 0; left--) {
            x.days(1);
            CHECK.due("then", x.whole(0), left);
        }

        CHECK.says("19: NONE: none such");
        CHECK.dueLimits("whole", v -> Check.sea("a1;b1;c1").whole(v), 0, 2);
        CHECK.due("without SHIPS", new StruckColours().whole(0), -1);
    }

    private static void sisters() {
        CHECK.says("20: -2: fewer than two");
        CHECK.due("none", new StruckColours().sisters(), -2);
        CHECK.due("one", Check.sea("a1").sisters(), -2);
        CHECK.due("two", Check.sea("a1;a1").sisters(), 0);

        CHECK.says("20: whose flags differ the least (differences added up)");
        StruckColours x = Check.sea("a1;b1");
        CHECK.due("the most that can be", x.sisters(), 24);
        x.sews(0, 1, 1);
        CHECK.due("one PART", x.sisters(), 22);
        StruckColours six = Check.sea("a1;b1;c1;d1;b1;c1");
        six.sews(4, 2, 5);
        six.sews(5, 1, 5);
        CHECK.due("7 and 5, 5 and 7", six.sisters(), 4);
        CHECK.dueRow("the last two", six, 4, 5);

        CHECK.says("20: (the lesser first; of like ones the least row)");
        StruckColours y = Check.sea("a1;b1;c1;d1");
        y.sisters();
        CHECK.dueRow("all are like", y, 0, 1);
        StruckColours z = Check.sea("a1;b1;b1;a1;b1");
        z.sisters();
        CHECK.dueRow("0 3 and 1 2", z, 0, 3);
    }

    private static void motley() {
        CHECK.says("21: -2: there are no SHIPS");
        CHECK.due("none", new StruckColours().motley(), -2);
        CHECK.due("one", Check.sea("a1").motley(), 0);

        CHECK.says("21: of equal ones the first: it; the ROW: how many, of how many other SIDES");
        StruckColours x = Check.sea("a1;b1;c1");
        CHECK.due("nothing of others", x.motley(), 0);
        CHECK.dueRow("nothing of others", x, 0, 0);
        x.sews(2, 0, 2);
        x.sews(1, 0, 1);
        x.sews(1, 3, 1);
        CHECK.due("two and two", x.motley(), 1);
        CHECK.dueRow("two and two", x, 2, 2);
        x.sews(2, 3, 1);
        CHECK.due("two and three", x.motley(), 2);
        CHECK.dueRow("two and three", x, 3, 2);
        x.sews(2, 1, 6);
        CHECK.due("she is of b", x.ship(2, 2), 1);
        CHECK.due("then", x.motley(), 2);
        CHECK.dueRow("then", x, 6, 3);
    }

    private static void order() {
        CHECK.says("22: the most first (of equal ones by their numbers): how many have some");
        StruckColours x = Check.sea(SIX);
        CHECK.due("order(1)", x.order(1), 2);
        CHECK.dueRow("order(1)", x, 1, 5, 0, 2, 3, 4);
        CHECK.due("order(3)", x.order(3), 1);
        CHECK.dueRow("order(3)", x, 3, 0, 1, 2, 4, 5);
        x.sews(5, 3, 1);
        x.sews(0, 3, 2);
        CHECK.due("order(3)", x.order(3), 3);
        CHECK.dueRow("order(3)", x, 3, 0, 5, 1, 2, 4);
        StruckColours y = Check.sea("a1;b1");
        CHECK.due("none has some", y.order(2), 0);
        CHECK.dueRow("none has some", y, 0, 1);
        StruckColours none = new StruckColours();
        none.evens();
        CHECK.due("without SHIPS", none.order(0), 0);
        CHECK.dueRow("without SHIPS", none);

        CHECK.says("22: NONE: another side");
        CHECK.dueLimits("order", x::order, 0, 3);
    }

    private static void rivals() {
        CHECK.says("23: against whom she would lose, with whom nobody wins (of unlike SIDES; bits)");
        StruckColours x = Check.strongSea("a4;b3;c4;d5;a1;b9", 1);
        CHECK.due("rivals(0)", x.rivals(0), 2);
        CHECK.dueRow("rivals(0)", x, 40, 4);
        CHECK.due("rivals(5)", x.rivals(5), 31 - 2);
        CHECK.dueRow("rivals(5)", x, 0, 0);
        CHECK.due("rivals(1)", x.rivals(1), 16);
        CHECK.dueRow("rivals(1)", x, 13, 0);
        CHECK.due("rivals(2)", x.rivals(2), 2 + 16);
        CHECK.dueRow("rivals(2)", x, 40, 1);
        StruckColours y = Check.sea("a4;a3;a4");
        CHECK.due("of one SIDE", y.rivals(0), 0);
        CHECK.dueRow("of one SIDE", y, 0, 0);
        StruckColours one = Check.sea("a4");
        CHECK.due("alone", one.rivals(0), 0);
        CHECK.dueRow("alone", one, 0, 0);

        CHECK.says("23: NONE: none such");
        CHECK.dueLimits("rivals", x::rivals, 0, 5);
        CHECK.dueLimits("rivals", one::rivals, 0, 0);
        CHECK.due("without SHIPS", new StruckColours().rivals(0), -1);
    }

    private static void duel() {
        CHECK.says("24: at most n (1 .. 20) FIGHTS");
        StruckColours x = Check.strongSea("a9;b1", 1);
        CHECK.dueLimits("duel", v -> x.duel(0, 1, v), 1, 20);
        CHECK.due("1", x.duel(0, 1, 1), 1);
        CHECK.dueRow("1", x, 1, 0, 1);
        CHECK.due("20", x.duel(0, 1, 20), 20);
        CHECK.dueRow("20", x, 20, 0, 1);
        CHECK.due("the other way round", x.duel(1, 0, 20), 20);
        CHECK.dueRow("the other way round", x, 0, 1, 0);

        CHECK.says("24: till they are of one SIDE");
        x.take(3);
        // 9 and 3, 10 and 2; 7 and 5, 8 and 4; 5 and 7.
        CHECK.due("three", x.duel(0, 1, 20), 3);
        CHECK.dueRow("three", x, 3, 1, 1);
        CHECK.due("just three", x.duel(0, 1, 3), 3);
        CHECK.dueRow("just three", x, 3, 1, 1);
        CHECK.due("two", x.duel(0, 1, 2), 2);
        CHECK.dueRow("two", x, 2, 0, 1);
        StruckColours like = Check.sea("a9;a1");
        CHECK.due("at first", like.duel(0, 1, 20), 0);
        CHECK.dueRow("at first", like, 0, 0, 0);

        CHECK.says("24: or nobody wins: how many FIGHTS were won");
        StruckColours y = Check.strongSea("a5;b5", 1);
        CHECK.due("at first", y.duel(0, 1, 20), 0);
        CHECK.dueRow("at first", y, 0, 0, 1);
        Check.rule(y, "o*(n<2)-w");
        y.sews(1, 2, 1);
        // 12 and 11: the first one; a day; 12 less 1 and 12 (mended): the second one; a day; both -1.
        CHECK.due("then", y.duel(0, 1, 20), 2);
        CHECK.dueRow("then", y, 1, 0, 1);

        CHECK.says("24: then A DAY goes by");
        StruckColours z = Check.strongSea("a5;b6", 1);
        z.sheet(2, 2, 5, -1);
        // 5 to 4; 5 to 4 (3 and a day); and so on, as long as the day mends what was lost.
        CHECK.due("duel", z.duel(0, 1, 9), 9);
        CHECK.due("DAY stays", z.count(2), 0);

        CHECK.says("24: NONE: others (none such), like ones");
        CHECK.dueLimits("one", v -> x.duel(v, 1 - v % 2, 1), 0, 1);
        CHECK.dueLimits("other", v -> x.duel(1 - v % 2, v, 1), 0, 1);
        for (int ship = -1; ship <= 2; ship++) {
            CHECK.due("like ones", x.duel(ship, ship, 1), -1);
        }
    }

    private static void tempts() {
        CHECK.says("25: -2: all are of it");
        CHECK.due("two", Check.sea("d1;d2").tempts(3), -2);
        CHECK.due("without SHIPS", new StruckColours().tempts(0), -2);

        CHECK.says("25: NONE: another side");
        StruckColours x = Check.sea("a1;b1;c1");
        CHECK.dueLimits("tempts", x::tempts, 0, 3);
        CHECK.due("without SHIPS", new StruckColours().tempts(4), -1);

        CHECK.says("25: The fewest PARTS; the ROW: the ship (of as few the first)");
        CHECK.due("tempts(0)", x.tempts(0), 7);
        CHECK.dueRow("not of it", x, 1);
        CHECK.due("tempts(3)", x.tempts(3), 7);
        CHECK.dueRow("of as few the first", x, 0);
        x.sews(2, 3, 2);
        CHECK.due("ten and two", x.tempts(3), 5);
        CHECK.dueRow("ten and two", x, 2);
        x.sews(2, 3, 4);
        CHECK.due("six and six", x.tempts(3), 1);
        x.sews(2, 3, 1);
        CHECK.due("she went over", x.ship(2, 2), 3);
        CHECK.due("the others", x.tempts(3), 7);
        StruckColours y = Check.sea("b1");
        y.sews(0, 2, 6);
        CHECK.due("past as many of c", y.tempts(0), 6);
        CHECK.due("not past as many of c", y.tempts(3), -2);
    }

    private static void wins() {
        CHECK.says("26: -2, -3: as fight()");
        StruckColours x = Check.strongSea("a5;b5;a1;b7", 6);
        CHECK.due("-2", x.wins(0, 2), -2);
        CHECK.due("-3", x.wins(0, 1), -3);

        CHECK.says("26: NONE: none such, like ones");
        CHECK.dueRefused("one", v -> x.wins(v, 1), -1, 4, Integer.MIN_VALUE, Integer.MAX_VALUE);
        CHECK.dueRefused("other", v -> x.wins(1, v), -1, 4, Integer.MIN_VALUE, Integer.MAX_VALUE);
        for (int ship = -1; ship <= 4; ship++) {
            CHECK.due("like ones", x.wins(ship, ship), -1);
        }
        CHECK.due("without SHIPS", new StruckColours().wins(0, 1), -1);

        CHECK.says("26: the ROW: SIDE of the first one, of the second one then");
        CHECK.due("six and six", x.wins(2, 3), 3);
        CHECK.dueRow("six and six", x, 0, 1);
        x.sews(3, 2, 1);
        CHECK.due("five and six and one", x.wins(2, 3), 3);
        CHECK.dueRow("five and six and one", x, 0, 0);
        CHECK.due("the other way round", x.wins(3, 2), 3);
        CHECK.dueRow("the other way round", x, 0, 0);
        CHECK.due("it is not done", x.ship(3, 2), 1);
    }

    private static void suits() {
        CHECK.says("27: -2: there is none");
        CHECK.due("alone", Check.sea("a1").suits(0, 0), -2);
        CHECK.due("of one SIDE", Check.sea("a1;a5").suits(0, 0), -2);
        CHECK.due("nobody wins", Check.sea("a1;b1").suits(0, 0), -2);

        CHECK.says("27: NONE: others");
        StruckColours x = Check.strongSea("a5;b3;c4;d9;b9", 2);
        CHECK.dueLimits("ship", v -> x.suits(v, 0), 0, 4);
        CHECK.dueLimits("side", v -> x.suits(0, v), 0, 3);
        CHECK.due("without SHIPS", new StruckColours().suits(0, 0), -1);

        CHECK.says("27: of equal ones the first: it; the ROW: how many PARTS");
        CHECK.due("of a: with those to whom she loses", x.suits(0, 0), 3);
        CHECK.dueRow("of a", x, 12);
        CHECK.due("of b", x.suits(0, 1), 1);
        CHECK.dueRow("of b", x, 2);
        CHECK.due("of d: with all as many", x.suits(0, 3), 1);
        CHECK.dueRow("of d", x, 0);
        CHECK.due("of a: with the first ship", x.suits(3, 0), 0);
        CHECK.dueRow("of a: with the first ship", x, 2);
    }

    private static void goesOver() {
        CHECK.says("28: The fewest FIGHTS (0 .. 3)");
        StruckColours x = Check.strongSea("a9;b1", 3);
        CHECK.due("none", x.goesOver(0, 0), 0);
        CHECK.dueRow("none", x);
        CHECK.due("three", x.goesOver(0, 1), 3);
        CHECK.dueRow("three", x, 0, 1, 0, 1, 0, 1);
        x.take(4);
        CHECK.due("two", x.goesOver(0, 1), 2);
        x.sews(0, 1, 3);
        CHECK.due("one", x.goesOver(0, 1), 1);
        CHECK.dueRow("one", x, 0, 1);

        CHECK.says("28: -2: by no three");
        StruckColours y = Check.strongSea("a9;b1", 2);
        CHECK.due("four", y.goesOver(0, 1), -2);
        CHECK.due("of no ship's SIDE", y.goesOver(0, 3), -2);
        CHECK.due("alone", Check.sea("a1").goesOver(0, 1), -2);

        CHECK.says("28: the lesser ship first (of as few the least row)");
        StruckColours z = Check.strongSea("b1;b2;a9;b3", 4);
        CHECK.due("goesOver(2, 1)", z.goesOver(2, 1), 2);
        CHECK.dueRow("goesOver(2, 1)", z, 0, 2, 0, 2);
        z.sews(0, 3, 7);
        CHECK.due("goesOver(2, 1)", z.goesOver(2, 1), 2);
        CHECK.dueRow("by others", z, 1, 2, 1, 2);

        CHECK.says("28: FIGHTS one behind the other, of others too");
        StruckColours help = Check.strongSea("a4;b4;c9", 3);
        help.sews(0, 1, 5);
        // The two are even; by a fight with the third one ship 1 has less STRENGTH.
        CHECK.due("two", help.goesOver(0, 1), 2);
        CHECK.dueRow("two", help, 1, 2, 0, 1);
        StruckColours more = Check.strongSea("a4;b5;c9", 3);
        more.sews(0, 1, 5);
        CHECK.due("three", more.goesOver(0, 1), 3);
        CHECK.dueRow("three", more, 1, 2, 1, 2, 0, 1);
        StruckColours toofar = Check.strongSea("a4;b6;c9", 3);
        toofar.sews(0, 1, 5);
        CHECK.due("four", toofar.goesOver(0, 1), -2);

        CHECK.says("28: FIGHTS that nobody wins are none");
        StruckColours even = Check.sea("a5;b5");
        even.take(6);
        CHECK.due("goesOver(0, 1)", even.goesOver(0, 1), -2);

        CHECK.says("28: NONE: others");
        CHECK.dueRefused("ship", v -> z.goesOver(v, 0), -1, 4, Integer.MIN_VALUE, Integer.MAX_VALUE);
        CHECK.dueRefused("side", v -> z.goesOver(0, v), -1, 4, Integer.MIN_VALUE, Integer.MAX_VALUE);
        CHECK.due("without SHIPS", new StruckColours().goesOver(0, 0), -1);
    }

    private static void peace() {
        CHECK.says("29: The fewest FIGHTS (0 .. 3) by which all SHIPS are of one SIDE");
        StruckColours none = new StruckColours();
        none.evens();
        CHECK.due("without SHIPS", none.peace(), 0);
        CHECK.dueRow("without SHIPS", none);
        CHECK.due("one", Check.sea("a1").peace(), 0);
        StruckColours all = Check.sea("d1;d2;d3;d4;d5;d6");
        all.evens();
        CHECK.due("all are", all.peace(), 0);
        CHECK.dueRow("all are", all);
        StruckColours x = Check.strongSea("b1;b1;a9;b1", 3);
        CHECK.due("three", x.peace(), 3);
        CHECK.dueRow("the least row", x, 0, 2, 0, 2, 0, 2);
        x.take(6);
        CHECK.due("two", x.peace(), 2);
        CHECK.dueRow("two", x, 0, 2, 0, 2);
        x.sews(2, 1, 1);
        CHECK.due("one", x.peace(), 1);
        CHECK.dueRow("one", x, 0, 2);
        StruckColours three = Check.strongSea("a9;b8;c7;d1", 6);
        three.sews(0, 3, 1);
        three.sews(1, 3, 1);
        three.sews(2, 3, 1);
        CHECK.due("three go over", three.peace(), 3);
        CHECK.dueRow("three go over", three, 0, 3, 1, 3, 2, 3);

        CHECK.says("29: -2: by no three");
        x.undo();
        x.take(2);
        CHECK.due("four", x.peace(), -2);
        CHECK.due("nobody wins", Check.sea("a1;b1").peace(), -2);
    }

    private static void campaign() {
        CHECK.says("30: n rounds (0 .. 40)");
        StruckColours x = Check.strongSea("a9;b1;c5", 6);
        CHECK.dueLimits("campaign", x::campaign, 0, 40);
        CHECK.due("0", x.campaign(0), 0);
        CHECK.dueRow("0", x, 0, 1, 2);
        CHECK.due("1", x.campaign(1), 0);
        CHECK.dueRow("1", x, 0, 1, 2);
        CHECK.due("2", x.campaign(2), 1);
        CHECK.dueRow("2", x, 1, 1, 2);
        CHECK.due("nobody ever wins", Check.sea("a1;b1").campaign(40), 0);
        StruckColours none = new StruckColours();
        none.evens();
        CHECK.due("without SHIPS", none.campaign(40), 0);
        CHECK.dueRow("without SHIPS", none);

        CHECK.says("30: the last of 40 rounds, too");
        StruckColours z = Check.strongSea("a9;b1", 6);
        // A fight on the DAYS 4, 11, .. 32, of which the flag mends; then one on DAY 38 and one on DAY 39.
        Check.rule(z, "s*((n=4)+(n=3)*(w=5))");
        CHECK.due("39", z.campaign(39), 0);
        CHECK.dueRow("39", z, 0, 1);
        CHECK.due("40", z.campaign(40), 1);
        CHECK.dueRow("40", z, 1, 1);

        CHECK.says("30: the first two SHIPS (the least row) of unlike SIDES with unlike FORCES");
        StruckColours v = Check.strongSea("a5;a9;b5;b1", 6);
        v.sews(0, 1, 5);
        v.sews(1, 1, 5);
        // 0 1 are of one side, 0 2 even; 0 3 fight.
        CHECK.due("one round", v.campaign(1), 1);
        CHECK.dueRow("one round", v, 1, 0, 1, 1);

        CHECK.says("30: OVERS more in these");
        StruckColours w = Check.strongSea("a9;b1;c1", 6);
        w.sews(2, 3, 7);
        w.sews(0, 1, 1);
        CHECK.due("OVERS ahead of it", w.count(3), 1);
        CHECK.due("no round", w.campaign(0), 0);
        CHECK.due("one round", w.campaign(1), 1);

        CHECK.says("30: NONE: another n");
        CHECK.due("without SHIPS", none.campaign(41), -1);
    }

    private static void halves() {
        CHECK.says("31: The fewest SHIPS (one at least); (bits: of as few the least)");
        StruckColours x = Check.sea("b5;a3;c4;a2");
        CHECK.due("two", x.halves(0), 2);
        CHECK.dueRow("the least", x, 3);
        x.sews(3, 1, 6);
        CHECK.due("one", x.halves(0), 1);
        CHECK.dueRow("one", x, 8);
        x.sews(2, 0, 6);
        CHECK.due("one", x.halves(0), 1);
        CHECK.dueRow("the least", x, 4);
        StruckColours four = Check.sea("a1;b1;b1;b1");
        four.sews(1, 0, 4);
        four.sews(2, 0, 4);
        four.sews(3, 0, 4);
        CHECK.due("all", four.halves(0), 4);
        CHECK.dueRow("all", four, 15);

        CHECK.says("31: just half");
        StruckColours y = Check.sea("a1");
        y.sews(0, 1, 5);
        CHECK.due("seven", y.halves(0), -2);
        CHECK.due("five", y.halves(1), -2);
        y.sews(0, 1, 1);
        CHECK.due("six", y.halves(0), 1);

        CHECK.says("31: -2: none are");
        CHECK.due("all", Check.sea("a1;a1").halves(0), -2);
        CHECK.due("nothing", Check.sea("a1;a1").halves(1), -2);
        CHECK.due("without SHIPS", new StruckColours().halves(0), -2);

        CHECK.says("31: NONE: another side");
        CHECK.dueLimits("halves", v -> Check.sea("a1;b1;c1;d1").halves(v), 0, 3);
        CHECK.due("without SHIPS", new StruckColours().halves(4), -1);
    }

    private static void evens() {
        CHECK.says("32: (0 and 0 without SHIPS)");
        StruckColours none = new StruckColours();
        CHECK.due("evens()", none.evens(), 0);
        CHECK.dueRow("evens()", none, 0);

        CHECK.says("32: two fleets (one may be empty)");
        StruckColours one = Check.sea("a7");
        CHECK.due("one ship", one.evens(), 7);
        CHECK.dueRow("one ship", one, 0);
        StruckColours idle = Check.sea("a7;b5");
        idle.sheet(2, 1, 7, 0);
        CHECK.due("the other one has none", idle.evens(), 7);
        CHECK.dueRow("the other one has none", idle, 0);

        CHECK.says("32: the fleet in which SHIP 0 is not (bits: of as good ones the least)");
        StruckColours x = Check.sea("a1;b1;c1;d1");
        CHECK.due("like ones", x.evens(), 0);
        CHECK.dueRow("like ones", x, 6);
        StruckColours y = Check.sea("a1;b9");
        CHECK.due("two", y.evens(), 8);
        CHECK.dueRow("two", y, 2);
        StruckColours six = Check.sea("a9;b9;c9;d9;a9;b9");
        CHECK.due("six", six.evens(), 0);
        CHECK.dueRow("six", six, 14);
        StruckColours last = Check.sea("a9;b1;c1;d1;a1;b9");
        CHECK.due("six", last.evens(), 0);
        CHECK.dueRow("six", last, 38);
        last.sheet(3, 0, 0, 0);
        CHECK.due("no STRENGTH", last.evens(), 0);
        CHECK.dueRow("no STRENGTH", last, 0);
    }

    private static void worth() {
        CHECK.says("33: more than half of that of all");
        StruckColours x = Check.sea("a1;b1");
        x.worth(0);
        CHECK.dueRow("just half is not", x, 1, 2);
        StruckColours y = Check.sea("a2;b1;c1");
        y.worth(0);
        // Just half alone: as the second or the third one.
        CHECK.dueRow("just half", y, 2, 3);
        StruckColours z = Check.sea("a3;b1;c1");
        z.worth(0);
        CHECK.dueRow("always", z, 1, 1);
        z.worth(2);
        CHECK.dueRow("never", z, 0, 1);
        StruckColours one = Check.sea("d1");
        one.worth(0);
        CHECK.dueRow("alone", one, 1, 1);
        StruckColours six = Check.sea("a9;b9;c9;d9;a9;b9");
        six.worth(5);
        CHECK.dueRow("six alike", six, 1, 6);

        CHECK.says("33: in any order, each as likely");
        for (String ships : new String[] {"a5;b3;c4;a2", "a5;b3;c2;d2;a1", "a5;b3;c2;d2;a1;b1", "a9;b8;c7;d3;a2;b2"}) {
            StruckColours any = Check.sea(ships);
            int[] times = new int[any.count(0)];
            int[] strengths = new int[times.length];
            for (int ship = 0; ship < times.length; ship++) {
                strengths[ship] = any.ship(ship, 1);
            }
            int orders = allOrders(strengths, 0, 0, times);
            for (int ship = 0; ship < times.length; ship++) {
                CHECK.due("worth(" + ship + ")", any.worth(ship), 0);
                CHECK.due("worth(" + ship + ") of " + ships, any.row(0) * orders, any.row(1) * times[ship]);
            }
        }

        CHECK.says("33: (0 by 1, if none ever is)");
        six.sheet(3, 0, 0, 0);
        CHECK.due("worth(0)", six.worth(0), 0);
        CHECK.dueRow("no STRENGTH", six, 0, 1);

        CHECK.says("33: NONE: none such");
        CHECK.dueLimits("worth", six::worth, 0, 5);
        CHECK.dueLimits("worth", one::worth, 0, 0);
        CHECK.due("without SHIPS", new StruckColours().worth(0), -1);
    }

    /** Goes through all orders in which ships may come behind those that came, and counts who was the one. */
    private static int allOrders(int[] strengths, int came, int strength, int[] times) {
        int orders = 0;
        int sum = Arrays.stream(strengths).sum();
        for (int ship = 0; ship < times.length; ship++) {
            if ((came & 1 << ship) != 0) {
                continue;
            }
            int then = strength + strengths[ship];
            int all = Integer.bitCount(came) == times.length - 1 ? 1 : allOrders(strengths, came | 1 << ship, then, times);
            if (2 * strength <= sum && 2 * then > sum) {
                times[ship] += all;
            }
            orders += all;
        }
        return orders;
    }

    private static void patched() {
        CHECK.says("34: k (0 .. 12) PARTS or more");
        StruckColours x = Check.sea("a1;b1;a1");
        x.sews(2, 1, 5);
        CHECK.dueLimits("patched", v -> x.patched(0, v), 0, 12);
        int[] k = {0, 1, 5, 6, 7, 8, 12};
        int[] bits = {7, 5, 5, 5, 5, 1, 1};
        for (int i = 0; i < k.length; i++) {
            CHECK.due("patched(0, " + k[i] + ")", x.patched(0, k[i]), bits[i]);
            CHECK.dueRow("patched(0, " + k[i] + ")", x, Integer.bitCount(bits[i]), 12);
        }
        CHECK.due("none", x.patched(2, 1), 0);
        CHECK.dueRow("none", x, 0, 0);
        CHECK.due("none, though one has some", Check.sea("a1").patched(0, 12), 1);

        CHECK.says("34: the most PARTS of it that one has (0 without SHIPS)");
        StruckColours y = Check.sea("a1");
        y.sews(0, 1, 5);
        CHECK.due("patched(1, 6)", y.patched(1, 6), 0);
        CHECK.dueRow("patched(1, 6)", y, 0, 5);
        StruckColours none = new StruckColours();
        CHECK.due("without SHIPS", none.patched(0, 0), 0);
        CHECK.dueRow("without SHIPS", none, 0, 0);

        CHECK.says("34: NONE: others (another side)");
        CHECK.dueLimits("patched", v -> x.patched(v, 1), 0, 3);
        CHECK.due("without SHIPS", none.patched(4, 0), -1);
    }
}
