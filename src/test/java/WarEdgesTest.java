import java.util.function.ToIntFunction;

/** Each sentence of promises 10 to 15 that names a boundary case. */
public final class WarEdgesTest {
    private static final Check CHECK = new Check();
    private static final String FOUR = "a5;b3;c4;a2";

    public static void main(String[] args) {
        fight();
        days();
        sews();
        yields();
        war();
        warThatStops();
        warFaults();
        undoOfTwelve();
        undoOfWhatWasDone();
        undoOfEach();
        undoOfAll();
        undoForgotten();
        CHECK.ends();
    }

    private static void fight() {
        CHECK.says("10: the ship that wins");
        StruckColours x = Check.strongSea(FOUR, 1);
        CHECK.due("the first one", x.fight(0, 1), 0);
        CHECK.due("the second one", x.fight(1, 0), 0);

        CHECK.says("10: -2: they are of one SIDE");
        CHECK.due("fight(0, 3)", x.fight(0, 3), -2);
        CHECK.due("fight(3, 0)", x.fight(3, 0), -2);
        Check.rule(x, "1");
        CHECK.due("of one SIDE with like FORCES", x.fight(0, 3), -2);
        CHECK.due("WON of all", x.count(5), 2);

        CHECK.says("10: -3: nobody wins");
        CHECK.due("fight(0, 1)", x.fight(0, 1), -3);
        CHECK.due("WON of all", x.count(5), 2);

        CHECK.says("10: NONE: none such");
        Check.rule(x, "s");
        CHECK.dueRefused("one", v -> x.fight(v, 1), -1, 4, 5, 6, Integer.MIN_VALUE, Integer.MAX_VALUE);
        CHECK.dueRefused("other", v -> x.fight(1, v), -1, 4, 5, 6, Integer.MIN_VALUE, Integer.MAX_VALUE);

        CHECK.says("10: NONE: like ones");
        for (int ship = -1; ship <= 4; ship++) {
            CHECK.due("ship " + ship, x.fight(ship, ship), -1);
        }
        CHECK.due("WON of all", x.count(5), 2);
    }

    private static void days() {
        CHECK.says("11: n DAYS (0 .. 60): STRENGTH of all together then");
        StruckColours x = Check.sea("a9;b2");
        x.sheet(3, 0, 0, 0);
        CHECK.due("0", x.days(0), 0);
        CHECK.due("count(2)", x.count(2), 0);
        CHECK.due("1", x.days(1), 2);
        CHECK.due("count(2)", x.count(2), 1);
        CHECK.due("60", x.days(60), 11);
        CHECK.due("count(2)", x.count(2), 61);

        CHECK.says("11: the ROW: by SIDES how many PARTS of all flags");
        x.sews(0, 3, 2);
        x.days(0);
        CHECK.dueRow("days(0)", x, 10, 12, 0, 2);
        x.days(1);
        CHECK.dueRow("days(1)", x, 11, 12, 0, 1);
        StruckColours none = new StruckColours();
        CHECK.due("without SHIPS", none.days(5), 0);
        CHECK.dueRow("without SHIPS", none, 0, 0, 0, 0);

        CHECK.says("11: Refused: another n");
        CHECK.dueRefused("days", x::days, -1, 61, Integer.MIN_VALUE, Integer.MAX_VALUE);
        CHECK.due("count(2)", x.count(2), 62);
        CHECK.dueRow("the ROW stays", x, 11, 12, 0, 1);
    }

    private static void sews() {
        CHECK.says("12: n (1 .. 12) PARTS");
        CHECK.dueLimits("sews", v -> Check.sea("a1").sews(0, 1, v), 1, 12);
        StruckColours x = Check.sea("a1");
        CHECK.due("one", x.sews(0, 3, 1), 0);
        CHECK.due("flag", Check.flag(x, 0), 11000001);
        StruckColours y = Check.sea("a1");
        CHECK.due("twelve", y.sews(0, 3, 12), 3);
        CHECK.due("flag", Check.flag(y, 0), 12);

        CHECK.says("12: of another SIDE (0 .. 3)");
        CHECK.dueLimits("sews", v -> Check.sea("b1").sews(0, v, 1), 0, 3);

        CHECK.says("12: NONE: others (none such)");
        CHECK.dueLimits("sews", v -> Check.sea("a1;a1;a1").sews(v, 1, 1), 0, 2);
        CHECK.due("without SHIPS", new StruckColours().sews(0, 1, 1), -1);

        CHECK.says("12: then she may GO OVER: her SIDE");
        CHECK.due("six", Check.sea("a1").sews(0, 1, 6), 0);
        CHECK.due("seven", Check.sea("a1").sews(0, 1, 7), 1);

        CHECK.says("12: -2: there are not so many");
        StruckColours z = Check.sea("a1");
        z.sews(0, 1, 5);
        CHECK.due("eight of seven", z.sews(0, 2, 8), -2);
        CHECK.due("twelve of seven", z.sews(0, 2, 12), -2);
        CHECK.due("flag", Check.flag(z, 0), 7050000);
        CHECK.due("seven of seven", z.sews(0, 2, 7), 2);
        CHECK.due("flag", Check.flag(z, 0), 50700);

        CHECK.says("12: -3: it is her own");
        CHECK.due("one", z.sews(0, 2, 1), -3);
        CHECK.due("all that are", z.sews(0, 2, 7), -3);
        CHECK.due("flag", Check.flag(z, 0), 50700);

        CHECK.says("12: NONE ahead of -2 and -3");
        CHECK.due("her own, n of 0", z.sews(0, 2, 0), -1);
        CHECK.due("not so many, another side", z.sews(0, 4, 12), -1);
        CHECK.due("not so many, n of 13", z.sews(0, 0, 13), -1);
    }

    private static void yields() {
        CHECK.says("13: all 12 PARTS are of a SIDE (0 .. 3), and she is of it: how many of these were not");
        StruckColours x = Check.sea("a1;b1");
        CHECK.due("all", x.yields(0, 3), 12);
        CHECK.due("flag", Check.flag(x, 0), 12);
        CHECK.due("SIDE", x.ship(0, 2), 3);
        x.sews(1, 2, 1);
        CHECK.due("one, to her own", x.yields(1, 1), 1);
        x.sews(1, 2, 1);
        CHECK.due("eleven", x.yields(1, 2), 11);
        CHECK.due("flag", Check.flag(x, 1), 1200);
        CHECK.due("OVERS: it is no going over", x.count(3), 0);
        CHECK.dueLimits("yields", v -> Check.sea("b1").yields(0, v), 0, 3);

        CHECK.says("13: -2: all are already");
        CHECK.due("yields", x.yields(1, 2), -2);
        CHECK.due("at first", Check.sea("d1").yields(0, 3), -2);

        CHECK.says("13: NONE: others (none such)");
        CHECK.dueLimits("yields", v -> Check.sea("a1;a1;a1").yields(v, 1), 0, 2);
        CHECK.due("without SHIPS", new StruckColours().yields(0, 1), -1);
    }

    private static void war() {
        CHECK.says("14: (an empty one: nothing)");
        StruckColours x = Check.sea(FOUR);
        x.sews(0, 1, 7);
        CHECK.due("war()", x.war(), 0);
        CHECK.dueRow("war()", x, 0, 1);
        CHECK.due("what can be undone", x.count(9), 1);

        CHECK.says("14: f and two digits (fight())");
        StruckColours y = Check.strongSea(FOUR, 2);
        CHECK.due("f10", Check.war(y, "f10"), 1);
        CHECK.due("WON", y.ship(0, 7), 1);

        CHECK.says("14: n and a digit (days())");
        CHECK.due("n0", Check.war(y, "n0"), 1);
        CHECK.due("count(2)", y.count(2), 0);
        CHECK.due("n9", Check.war(y, "n9"), 1);
        CHECK.due("count(2)", y.count(2), 9);

        CHECK.says("14: s, a digit, a letter a .. d and a digit 1 .. 9 (sews())");
        CHECK.due("s1d1", Check.war(y, "s1d1"), 1);
        CHECK.due("flag", Check.flag(y, 1), 110001);
        CHECK.due("s0d9", Check.war(y, "s0d9"), 1);
        CHECK.due("flag", Check.flag(y, 0), 3000009);
        CHECK.dueRow("OVERS", y, 0, 1);

        CHECK.says("14: y, a digit and a letter (yields())");
        CHECK.due("y2a", Check.war(y, "y2a"), 1);
        CHECK.due("y2d", Check.war(y, "y2d"), 1);
        CHECK.due("flag", Check.flag(y, 2), 12);

        CHECK.says("14: ACTS one behind another, without signs between: how many were done");
        CHECK.due("four", Check.war(y, "n1f12s2a1y2d"), 4);
        CHECK.due("a sign between", Check.war(y, "n1 n1"), -3);
        CHECK.due("a sign between", Check.war(y, "n1;n1"), -3);

        CHECK.says("14: 60 signs");
        CHECK.due("thirty ACTS", Check.war(y, "n0".repeat(30)), 30);
        CHECK.due("twenty ACTS", Check.war(Check.sea("a1;b1"), "f01".repeat(20)), 20);
        CHECK.due("fifteen ACTS", Check.war(Check.sea("a1"), "s0b7s0a7".repeat(7) + "s0b7"), 15);
    }

    private static void dueStop(String war, int done) {
        StruckColours x = Check.sea("a5;b3;c4;a2;b3");
        CHECK.due(war, Check.war(x, war + "n1"), done);
        CHECK.due(war + ": row(0)", x.row(0), 1);
        CHECK.due(war + ": what comes behind is not done", x.count(2), war.startsWith("n1") ? 1 : 0);
    }

    private static void warThatStops() {
        CHECK.says("14: till one can't be (it answers below 0)");
        dueStop("f00", 0);
        dueStop("f03", 0);
        dueStop("f05", 0);
        dueStop("f09", 0);
        dueStop("f90", 0);
        dueStop("f14", 0);
        dueStop("s0a1", 0);
        dueStop("s5a1", 0);
        dueStop("s0b9s0a9s0a1", 2);
        dueStop("s1c4s1d9", 1);
        dueStop("y0a", 0);
        dueStop("y5a", 0);
        dueStop("n1f00", 1);
        dueStop("n1y1ay1a", 2);

        CHECK.says("14: but for -3 of fight(), which is done");
        StruckColours x = Check.sea("a3;b3");
        CHECK.due("f01", Check.war(x, "f01"), 1);
        CHECK.dueRow("f01", x, 0, 0);
        CHECK.due("f01n1", Check.war(x, "f01n1"), 2);
        CHECK.due("count(2)", x.count(2), 1);

        CHECK.says("14: the ROW: 1 if one could not be, else 0; OVERS then");
        CHECK.due("s0b7f01", Check.war(x, "s0b7f01"), 1);
        CHECK.dueRow("s0b7f01", x, 1, 1);
        CHECK.due("n1", Check.war(x, "n1"), 1);
        CHECK.dueRow("n1", x, 0, 1);
        CHECK.due("f00", Check.war(x, "f00"), 0);
        CHECK.dueRow("f00", x, 1, 1);
    }

    private static void dueFault(String war, int place) {
        StruckColours x = Check.sea(FOUR);
        x.fleet(1);
        CHECK.due(war, Check.war(x, war), -1 - place);
        CHECK.due(war + ": nothing is done", x.count(2) + x.count(3) + x.count(5) + x.count(9) + x.count(12), 0);
        CHECK.due(war + ": THE TEXT is empty", x.count(11), 0);
    }

    private static void warFaults() {
        CHECK.says("14: -1 - p: the sign at p can't stand there; nothing is done then");
        String text = "n1f01s2d7y1a";
        for (int p = 0; p < text.length(); p++) {
            for (String sign : new String[] {"?", "\0", "e", ":", "/", "`"}) {
                dueFault(text.substring(0, p) + sign + text.substring(p + 1), p);
            }
        }
        dueFault("n1s0a0", 5);
        dueFault("n1n", 3);
        dueFault("n1x", 2);
        dueFault("n11", 2);
        dueFault("f012", 3);
        dueFault("s0a10", 4);
        dueFault("y0ab", 3);
        for (char c = 0; c < 256; c++) {
            dueFault("n1" + c, "fnsy".indexOf(c) >= 0 ? 3 : 2);
        }

        CHECK.says("14: as ships(): its end, if it ends too early");
        for (int n : new int[] {1, 3, 4, 6, 7, 8, 10, 11}) {
            dueFault(text.substring(0, n), n);
        }

        CHECK.says("14: as ships(): 60, if it has more and the first 60 could go on or end");
        dueFault("n1".repeat(30) + "n1", 60);
        dueFault("n1".repeat(30) + "?", 60);
        dueFault("n1".repeat(40), 60);
        dueFault("n1".repeat(29) + "y0a", 60);
        dueFault("n1".repeat(29) + "y0?", 60);
        dueFault("n1".repeat(29) + "s0", 60);
        dueFault("n1".repeat(28) + "s0af", 59);
        dueFault("?" + "n1".repeat(30), 0);
        dueFault("n1".repeat(29) + "n?n1", 59);
        dueFault("n1".repeat(29) + "y0", 60);
    }

    private static void undoOfTwelve() {
        CHECK.says("15: Refused: none");
        StruckColours x = Check.sea("a1");
        CHECK.due("at first", x.undo(), -1);
        CHECK.due("without SHIPS", new StruckColours().undo(), -1);

        CHECK.says("15: of 12 that are kept, the latest ones");
        for (int i = 1; i <= 12; i++) {
            x.days(1);
            CHECK.due("count(9)", x.count(9), i);
        }
        x.days(1);
        CHECK.due("a thirteenth", x.count(9), 12);

        CHECK.says("15: how many are left that can be");
        for (int left = 11; left >= 0; left--) {
            CHECK.due("undo()", x.undo(), left);
            CHECK.due("count(2)", x.count(2), left + 1);
            CHECK.due("count(9)", x.count(9), left);
        }
        CHECK.due("undo()", x.undo(), -1);
        CHECK.due("count(2)", x.count(2), 1);

        CHECK.says("15: what comes behind an undo() is kept in its place");
        StruckColours y = Check.sea("a1");
        for (int i = 0; i < 20; i++) {
            y.days(1);
        }
        for (int i = 0; i < 5; i++) {
            y.undo();
        }
        CHECK.due("count(2)", y.count(2), 15);
        for (int i = 0; i < 9; i++) {
            y.days(2);
        }
        CHECK.due("count(9)", y.count(9), 12);
        for (int i = 1; i <= 9; i++) {
            y.undo();
            CHECK.due("count(2)", y.count(2), 33 - 2 * i);
        }
        for (int i = 1; i <= 3; i++) {
            CHECK.due("undo()", y.undo(), 3 - i);
            CHECK.due("count(2)", y.count(2), 15 - i);
        }
        CHECK.due("undo()", y.undo(), -1);
    }

    private static void dueKept(String what, StruckColours x, int want) {
        CHECK.due(what + ": what can be undone", x.count(9), want);
    }

    private static void undoOfWhatWasDone() {
        CHECK.says("15: such as were done, fight() with -3 not");
        StruckColours x = Check.sea("a3;b3;a1");
        CHECK.due("fight(0, 1)", x.fight(0, 1), -3);
        dueKept("-3", x, 0);
        x.fight(0, 2);
        dueKept("-2", x, 0);
        x.fight(0, 0);
        dueKept("NONE", x, 0);
        x.fight(1, 2);
        dueKept("won", x, 1);

        CHECK.says("15: such as were done: sews(), yields()");
        x.sews(0, 0, 1);
        x.sews(0, 4, 1);
        x.yields(0, 0);
        x.yields(0, 4);
        dueKept("not done", x, 1);
        x.sews(0, 1, 1);
        dueKept("sews()", x, 2);
        x.sews(0, 1, 12);
        dueKept("sews() with -2", x, 2);
        x.yields(0, 0);
        dueKept("yields()", x, 3);

        CHECK.says("15: days() of 1 and more");
        x.days(0);
        dueKept("0", x, 3);
        x.days(-1);
        x.days(61);
        dueKept("refused", x, 3);
        x.days(1);
        dueKept("1", x, 4);
        x.days(60);
        dueKept("60", x, 5);

        CHECK.says("15: war() of which one ACT was done, as one");
        Check.war(x, "");
        dueKept("empty", x, 5);
        Check.war(x, "f00n1");
        dueKept("none was done", x, 5);
        Check.war(x, "n1?");
        dueKept("a wrong sign", x, 5);
        Check.war(x, "n1f00n1");
        dueKept("one was done", x, 6);
        StruckColours even = Check.sea("a3;b3");
        Check.war(even, "f01");
        dueKept("one was done, a fight that nobody won", even, 1);
        Check.war(even, "n0");
        dueKept("one was done, no days", even, 2);
        Check.war(x, "n1n1n1n1n1n1n1n1n1n1n1n1n1");
        dueKept("thirteen were done", x, 7);
        int day = x.count(2);
        x.undo();
        CHECK.due("count(2)", x.count(2), day - 13);

        CHECK.says("15: the others are no such: take(), sheet(), rule(), seen(), told(), keep(), questions");
        x.take(2);
        x.sheet(2, 2, 1, 1);
        Check.rule(x, "s");
        x.seen(0, 0);
        x.told(0, 0, 1);
        x.keep(0);
        x.years(1, 9);
        x.campaign(9);
        x.later(0, 9);
        dueKept("none of them", x, 6);
    }

    private static String allOf(StruckColours x) {
        StringBuilder all = new StringBuilder();
        for (int ship = 0; ship < x.count(0); ship++) {
            for (int what = 0; what <= 8; what++) {
                all.append(x.ship(ship, what)).append(' ');
            }
        }
        return all.append(x.count(2)).append(' ').append(x.count(3)).toString();
    }

    /** An act is undone, behind other acts and a sheet that none of them is to bring back. */
    private static void dueUndone(String act, ToIntFunction<StruckColours> of) {
        StruckColours x = Check.strongSea("a9;b3;c1", 3);
        x.sews(1, 3, 2);
        x.fight(0, 2);
        x.days(1);
        x.yields(2, 1);
        Check.war(x, "s0b1n1");
        x.sews(0, 3, 1);
        x.sheet(2, 3, 3, -1);
        String before = allOf(x);
        CHECK.due(act + " is done", of.applyAsInt(x) >= 0, true);
        CHECK.due(act + " changes something", allOf(x).equals(before), false);
        CHECK.due(act + ": what can be undone", x.count(9), 7);
        CHECK.due(act + ": undo()", x.undo(), 6);
        CHECK.due(act + ": all is as ahead of it", allOf(x).equals(before), true);
    }

    private static void undoOfEach() {
        CHECK.says("15: The latest fight() is undone");
        dueUndone("fight, won by the first ship", x -> x.fight(0, 1));
        dueUndone("fight", x -> x.fight(2, 0));
        CHECK.says("15: The latest days() is undone");
        dueUndone("days(1)", x -> x.days(1));
        dueUndone("days(60)", x -> x.days(60));
        CHECK.says("15: The latest sews() is undone");
        dueUndone("sews, by which she is of the first side", x -> x.sews(0, 1, 1));
        dueUndone("sews, by which she goes over", x -> x.sews(2, 3, 7));
        CHECK.says("15: The latest yields() is undone");
        dueUndone("yields, of one part", x -> x.yields(0, 0));
        dueUndone("yields, of twelve", x -> x.yields(2, 0));
        CHECK.says("15: The latest war() is undone");
        dueUndone("war of one act", x -> Check.war(x, "n1"));
        dueUndone("war of many", x -> Check.war(x, "s2d7f01n3y1af00"));
    }

    private static void undoOfAll() {
        CHECK.says("15: (STRENGTH, flags, SIDES, WON, LOST, DAY, OVERS are as ahead of it)");
        StruckColours x = Check.strongSea("a9;b3;c1", 6);
        x.sews(0, 1, 5);
        x.fight(0, 1);
        CHECK.due("SIDE", x.ship(0, 2), 1);
        CHECK.due("OVERS", x.count(3), 1);
        x.undo();
        CHECK.due("flag", Check.flag(x, 0), 7050000);
        CHECK.due("SIDE", x.ship(0, 2), 0);
        CHECK.due("STRENGTH", x.count(4), 13);
        CHECK.due("WON, LOST, OVERS", x.count(5) + x.count(6) + x.count(3), 0);
        x.sheet(2, 3, 1, 0);
        x.days(3);
        CHECK.due("DAY", x.count(2), 3);
        x.undo();
        CHECK.due("DAY", x.count(2), 0);
        CHECK.due("STRENGTH, as the sheet told it", x.count(4), 3);
        CHECK.due("flag", Check.flag(x, 0), 7050000);

        CHECK.says("15: TAKE, THE RULE, THE TEXT, what was seen and told, and the ROW are none of them");
        x.days(1);
        x.take(2);
        Check.rule(x, "7");
        x.seen(0, 0);
        x.told(0, 0, 1);
        x.fleet(2);
        x.sign(0);
        x.undo();
        CHECK.due("TAKE", x.count(1), 2);
        CHECK.due("THE RULE", x.force(0, 1), 1007);
        CHECK.due("seen, told", 10 * x.count(7) + x.count(8), 11);
        CHECK.due("THE TEXT", x.count(11), 4);
        CHECK.dueRow("the ROW", x, 1, 12);
    }

    private static void undoForgotten() {
        CHECK.says("15: ships() forgets them, if it is not refused");
        StruckColours x = Check.sea("a3;b2");
        x.days(1);
        x.days(1);
        CHECK.due("refused", Check.ships(x, "a0"), -2);
        dueKept("refused", x, 2);
        CHECK.due("refused, no room", Check.ships(x, "a1;a1;a1;a1;a1"), -13);
        dueKept("refused, no room", x, 2);

        CHECK.says("15: an empty ships() does not");
        CHECK.due("empty", Check.ships(x, ""), 0);
        dueKept("empty", x, 2);

        CHECK.says("15: ships() forgets them");
        CHECK.due("one", Check.ships(x, "a1"), 1);
        dueKept("one", x, 0);
        CHECK.due("undo()", x.undo(), -1);
        CHECK.due("DAY stays", x.count(2), 2);

        CHECK.says("15: again() forgets them, if it is not refused");
        x.keep(0);
        x.days(1);
        CHECK.due("nothing kept", x.again(1), false);
        CHECK.due("no such number", x.again(2), false);
        dueKept("refused", x, 1);
        CHECK.due("again(0)", x.again(0), true);
        dueKept("again(0)", x, 0);
        CHECK.due("undo()", x.undo(), -1);
        CHECK.due("keep() does not", x.days(1) > 0 && x.keep(1), true);
        dueKept("keep()", x, 1);
    }
}
