import java.util.ArrayList;
import java.util.List;
import java.util.NoSuchElementException;

/**
 * "Refused calls answer NONE, or false, and change nothing but THE TEXT, which a call that reads it empties." and
 * "Questions change nothing.": each such call is made on one of two like objects, and all that can be seen is compared.
 */
public final class NothingChangesTest {
    private interface Call {
        long of(StruckColours x);
    }

    private static final Check CHECK = new Check();
    private static final int MIN = Integer.MIN_VALUE;
    private static final int MAX = Integer.MAX_VALUE;

    public static void main(String[] args) {
        refusedOfShips();
        refusedOfWar();
        refusedQuestions();
        refusedNotes();
        refusedWhenFull();
        reasonsChangeNothing();
        refusedTexts();
        questions();
        questionsOfTexts();
        CHECK.ends();
    }

    /** Four ships amid a war, with something in all that an object holds. */
    private static StruckColours busy() {
        StruckColours x = Check.sea("a5;b3;c4;a2");
        Check.rule(x, "s*3+o");
        x.take(2);
        x.sews(3, 2, 3);
        x.keep(0);
        x.fight(0, 1);
        x.days(1);
        x.yields(1, 3);
        x.keep(1);
        x.fight(2, 0);
        x.seen(0, 0);
        x.seen(1, 1);
        x.told(5, 7, 1);
        x.told(7, 5, 0);
        x.days(0);
        Check.tell(x, "d7");
        return x;
    }

    private static StruckColours busyWith(String text) {
        StruckColours x = busy();
        Check.tell(x, text);
        return x;
    }

    private static List<Long> rowOf(StruckColours x) {
        List<Long> row = new ArrayList<>();
        for (int i = 0; i < x.count(10); i++) {
            row.add(x.row(i));
        }
        return row;
    }

    private static void addShips(List<Long> all, StruckColours x) {
        for (int ship = 0; ship < x.count(0); ship++) {
            for (int what = 0; what <= 8; what++) {
                all.add((long) x.ship(ship, what));
            }
        }
        for (int what = 0; what <= 9; what++) {
            all.add((long) x.count(what));
        }
    }

    /** All that can be seen of an object but for its row, by calls that change it. */
    private static List<Long> allOf(StruckColours x) {
        List<Long> all = new ArrayList<>();
        addShips(all, x);
        all.add((long) x.count(11));
        for (int one = 0; one < x.count(0); one++) {
            for (int other = 0; other < x.count(0); other++) {
                all.add((long) x.force(one, other));
            }
        }
        all.add((long) x.fits());
        all.add((long) x.laws());
        all.addAll(rowOf(x));
        for (int left = x.undo(); left >= 0; left = x.undo()) {
            all.add((long) left);
            all.add((long) (x.count(2) * 1000 + x.count(4) * 100 + x.count(5) * 10 + x.count(12)));
        }
        for (int i = 0; i < 2; i++) {
            all.add(x.again(i) ? 1L : 0L);
            addShips(all, x);
        }
        all.add((long) x.ships());
        addShips(all, x);
        return all;
    }

    private static void dueLike(String what, StruckColours x, StruckColours like) {
        CHECK.due(what + ": the ROW stays", rowOf(x).equals(rowOf(like)), true);
        CHECK.due(what + ": all stays", allOf(x).equals(allOf(like)), true);
    }

    private static void dueNothing(String what, Call call, long answer) {
        StruckColours x = busy();
        CHECK.due(what, call.of(x), answer);
        dueLike(what, x, busy());
    }

    private static void refused(String what, Call... calls) {
        for (int i = 0; i < calls.length; i++) {
            dueNothing(what + " " + i, calls[i], StruckColours.NONE);
        }
    }

    private static void untrue(String what, Call... calls) {
        for (int i = 0; i < calls.length; i++) {
            dueNothing(what + " " + i, calls[i], 0);
        }
    }

    private static long bit(boolean is) {
        return is ? 1 : 0;
    }

    private static long throwsOne(Runnable run) {
        try {
            run.run();
        } catch (NoSuchElementException e) {
            return StruckColours.NONE;
        }
        return 0;
    }

    private static void refusedOfShips() {
        CHECK.says("3: refused end() changes nothing");
        untrue("end", x -> bit(x.end(3)), x -> bit(x.end(-1)), x -> bit(x.end(MIN)), x -> bit(x.end(MAX)));
        CHECK.says("6: refused ship() changes nothing");
        refused("ship", x -> throwsOne(() -> x.ship(-1, 0)), x -> throwsOne(() -> x.ship(4, 0)),
            x -> throwsOne(() -> x.ship(0, 9)), x -> throwsOne(() -> x.ship(0, -1)));
        CHECK.says("7: refused force() changes nothing");
        refused("force", x -> x.force(0, 0), x -> x.force(4, 0), x -> x.force(0, -1));
        CHECK.says("8: refused take() changes nothing");
        refused("take", x -> x.take(0), x -> x.take(7), x -> x.take(MIN), x -> x.take(MAX));
        CHECK.says("9: refused sheet() changes nothing");
        refused("sheet", x -> x.sheet(-1, 2, 1, 1), x -> x.sheet(4, 2, 1, 1), x -> x.sheet(4, -1, 1, 1),
            x -> x.sheet(0, 7, 1, 1), x -> x.sheet(1, 7, 1, 1), x -> x.sheet(2, MAX, 1, 1), x -> x.sheet(3, 7, 1, 1));
    }

    private static void refusedOfWar() {
        CHECK.says("10: refused fight() changes nothing");
        refused("fight", x -> x.fight(0, 0), x -> x.fight(0, 4), x -> x.fight(-1, 0), x -> x.fight(MAX, MIN));
        CHECK.says("11: refused days() changes nothing");
        refused("days", x -> x.days(-1), x -> x.days(61), x -> x.days(MIN), x -> x.days(MAX));
        CHECK.says("12: refused sews() changes nothing");
        refused("sews", x -> x.sews(-1, 0, 1), x -> x.sews(4, 0, 1), x -> x.sews(0, -1, 1), x -> x.sews(0, 4, 1),
            x -> x.sews(0, 1, 0), x -> x.sews(0, 1, 13), x -> x.sews(0, 1, -1));
        CHECK.says("13: refused yields() changes nothing");
        refused("yields", x -> x.yields(-1, 0), x -> x.yields(4, 0), x -> x.yields(0, -1), x -> x.yields(0, 4));
        CHECK.says("48: refused keep() changes nothing");
        untrue("keep", x -> bit(x.keep(-1)), x -> bit(x.keep(2)), x -> bit(x.keep(MIN)), x -> bit(x.keep(MAX)));
        CHECK.says("49: refused again() changes nothing");
        untrue("again", x -> bit(x.again(-1)), x -> bit(x.again(2)), x -> bit(x.again(MIN)), x -> bit(x.again(MAX)));
        CHECK.says("51: refused row() changes nothing");
        refused("row", x -> throwsOne(() -> x.row(-1)), x -> throwsOne(() -> x.row(4)));
        CHECK.says("50: refused count() changes nothing");
        refused("count", x -> x.count(-1), x -> x.count(14));
    }

    private static void refusedQuestions() {
        CHECK.says("16 .. 22: refused questions leave the ROW");
        refused("fleet", x -> x.fleet(-1), x -> x.fleet(4));
        refused("share", x -> x.share(-1), x -> x.share(4));
        refused("later", x -> x.later(4, 0), x -> x.later(0, -1), x -> x.later(0, 100));
        refused("whole", x -> x.whole(-1), x -> x.whole(4));
        refused("order", x -> x.order(-1), x -> x.order(4));
        CHECK.says("23 .. 30: refused questions leave the ROW");
        refused("rivals", x -> x.rivals(-1), x -> x.rivals(4));
        refused("duel", x -> x.duel(0, 0, 1), x -> x.duel(0, 4, 1), x -> x.duel(0, 1, 0), x -> x.duel(0, 1, 21));
        refused("tempts", x -> x.tempts(-1), x -> x.tempts(4));
        refused("wins", x -> x.wins(0, 0), x -> x.wins(4, 0));
        refused("suits", x -> x.suits(4, 0), x -> x.suits(0, 4));
        refused("goesOver", x -> x.goesOver(4, 0), x -> x.goesOver(0, 4));
        refused("campaign", x -> x.campaign(-1), x -> x.campaign(41));
        CHECK.says("31 .. 47: refused questions leave the ROW");
        refused("halves", x -> x.halves(-1), x -> x.halves(4));
        refused("worth", x -> x.worth(-1), x -> x.worth(4));
        refused("patched", x -> x.patched(4, 0), x -> x.patched(0, -1), x -> x.patched(0, 13));
        refused("treaty", x -> x.treaty(-1, 0), x -> x.treaty(0, 31));
        refused("series", x -> x.series(0, 1, 1), x -> x.series(1, 9, 1), x -> x.series(1, 1, 11));
        refused("rests", x -> x.rests(-1), x -> x.rests(21));
        refused("years", x -> x.years(1, 0), x -> x.years(1, 61));
    }

    private static void refusedNotes() {
        CHECK.says("35: refused seen() changes nothing");
        refused("seen", x -> x.seen(-1, 0), x -> x.seen(5, 0), x -> x.seen(0, 4), x -> x.seen(1, 10), x -> x.seen(2, 4),
            x -> x.seen(3, 100), x -> x.seen(4, 2), x -> x.seen(0, -1));
        CHECK.says("39: refused told() changes nothing");
        refused("told", x -> x.told(-1, 0, 0), x -> x.told(13, 0, 0), x -> x.told(6, 7, 0), x -> x.told(6, -1, 0),
            x -> x.told(0, 0, 2), x -> x.told(0, 0, -1));
    }

    private static void refusedWhenFull() {
        CHECK.says("2: refused sign() changes nothing");
        StruckColours x = busyWith("d7".repeat(40));
        CHECK.due("sign", x.sign(0), -1);
        dueLike("sign", x, busyWith("d7".repeat(40)));
        CHECK.says("35: a thirteenth seen() changes nothing");
        StruckColours y = full();
        CHECK.due("seen", y.seen(0, 3), -1);
        dueLike("seen", y, full());
        CHECK.says("39: a thirteenth told() changes nothing");
        StruckColours z = full();
        CHECK.due("told", z.told(0, 12, 0), -1);
        dueLike("told", z, full());
        CHECK.says("15: refused undo() changes nothing");
        StruckColours u = Check.sea("a5;b3");
        u.fleet(1);
        u.keep(0);
        StruckColours like = Check.sea("a5;b3");
        like.fleet(1);
        like.keep(0);
        CHECK.due("undo", u.undo(), -1);
        dueLike("undo", u, like);
        CHECK.says("17: refused share() without SHIPS leaves the ROW");
        StruckColours none = new StruckColours();
        none.fleet(0);
        CHECK.due("share", none.share(0), -1);
        CHECK.dueRow("share", none, 0, 0);
    }

    private static StruckColours full() {
        StruckColours x = busy();
        for (int i = 0; i < 10; i++) {
            x.seen(3, 0);
            x.told(12, 0, 0);
        }
        return x;
    }

    private static void reasonsChangeNothing() {
        CHECK.says("10: -2 and -3 of fight() change nothing");
        dueNothing("-2", x -> x.fight(0, 3), -2);
        StruckColours even = Check.sea("a5;b5");
        CHECK.due("-3", even.fight(0, 1), -3);
        dueLike("-3", even, Check.sea("a5;b5"));
        CHECK.says("9: -2 of sheet(): nothing changes");
        dueNothing("sheet", x -> x.sheet(0, -1, 1, 1), -2);
        dueNothing("sheet", x -> x.sheet(2, MIN, 1, 1), -2);
        CHECK.says("12: -2 and -3 of sews() change nothing");
        dueNothing("-2", x -> x.sews(3, 1, 12), -2);
        dueNothing("-3", x -> x.sews(3, 0, 1), -3);
        CHECK.says("13: -2 of yields() changes nothing");
        dueNothing("-2", x -> x.yields(1, 3), -2);
        CHECK.says("26: -2 of wins() changes nothing");
        dueNothing("-2", x -> x.wins(0, 3), -2);
        CHECK.says("31: -2 of halves() changes nothing");
        StruckColours whole = Check.sea("a5;a3");
        whole.fleet(0);
        CHECK.due("halves", whole.halves(0), -2);
        CHECK.dueRow("halves", whole, 8, 24);
    }

    private static void dueEmptied(String text, Call call, long answer) {
        StruckColours x = busyWith(text);
        CHECK.due(text, call.of(x), answer);
        CHECK.due(text + ": THE TEXT is empty", x.count(11), 0);
        dueLike(text, x, busyWith(""));
    }

    private static void refusedTexts() {
        CHECK.says("4: ships() that is refused changes nothing but THE TEXT, which it empties");
        dueEmptied("a1;b1;c1", StruckColours::ships, -7);
        dueEmptied("a1;b0", StruckColours::ships, -5);
        dueEmptied("a1;", StruckColours::ships, -4);
        dueEmptied("?", StruckColours::ships, -1);
        CHECK.says("5: rule() that is refused changes nothing but THE TEXT, which it empties");
        dueEmptied("7+", StruckColours::rule, -3);
        dueEmptied("(7", StruckColours::rule, -3);
        dueEmptied("7<7<7", StruckColours::rule, -4);
        dueEmptied("1+".repeat(21) + "1", StruckColours::rule, -41);
        CHECK.says("14: war() that can't be read changes nothing but THE TEXT, which it empties");
        dueEmptied("n1n1n", StruckColours::war, -6);
        dueEmptied("y0bs1a0", StruckColours::war, -7);
        dueEmptied("n1".repeat(31), StruckColours::war, -61);
        CHECK.says("46: law() that can't be read changes nothing but THE TEXT, which it empties");
        dueEmptied("7+", StruckColours::law, -10002);
        dueEmptied("?", StruckColours::law, -10000);
        dueEmptied("1+".repeat(21) + "1", StruckColours::law, -10040);
        CHECK.says("4: an empty ships() changes nothing");
        dueEmptied("", StruckColours::ships, 0);
    }

    private static void dueQuestion(String what, Call call) {
        StruckColours x = busy();
        CHECK.due(what + " is answered", call.of(x) != StruckColours.NONE, true);
        CHECK.due(what + ": all stays", allOf(x).equals(allOf(busy())), true);
    }

    private static void questions() {
        CHECK.says("Questions change nothing: who is what");
        for (int k = 0; k < 4; k++) {
            int i = k;
            dueQuestion("force", x -> x.force(i, (i + 1) % 4));
            dueQuestion("fleet", x -> x.fleet(i));
            dueQuestion("share", x -> x.share(i));
            dueQuestion("later", x -> x.later(i, 99));
            dueQuestion("whole", x -> x.whole(i));
            dueQuestion("order", x -> x.order(i));
            dueQuestion("patched", x -> x.patched(i, 3));
            dueQuestion("halves", x -> x.halves(i));
            dueQuestion("worth", x -> x.worth(i));
        }
        dueQuestion("sisters", StruckColours::sisters);
        dueQuestion("motley", StruckColours::motley);
        dueQuestion("evens", StruckColours::evens);
        CHECK.says("Questions change nothing: whom to fight");
        for (int k = 0; k < 16; k++) {
            int i = k / 4;
            int j = k % 4;
            dueQuestion("suits", x -> x.suits(i, j));
            dueQuestion("goesOver", x -> x.goesOver(i, j));
            if (i != j) {
                dueQuestion("duel", x -> x.duel(i, j, 20));
                dueQuestion("wins", x -> x.wins(i, j));
            }
        }
        for (int k = 0; k < 4; k++) {
            int i = k;
            dueQuestion("rivals", x -> x.rivals(i));
            dueQuestion("tempts", x -> x.tempts(i));
            dueQuestion("campaign", x -> x.campaign(10 * i + 10));
            dueQuestion("years", x -> x.years(i, 60));
        }
        dueQuestion("peace", StruckColours::peace);
        CHECK.says("Questions change nothing: what was seen and told, treaties, chances, rests");
        dueQuestion("fits", StruckColours::fits);
        dueQuestion("looks", StruckColours::looks);
        dueQuestion("laws", StruckColours::laws);
        dueQuestion("asks", StruckColours::asks);
        dueQuestion("treaty", x -> x.treaty(30, 29));
        dueQuestion("series", x -> x.series(8, 8, 3));
        dueQuestion("rests", x -> x.rests(20));
        dueQuestion("count", x -> x.count(13));
        dueQuestion("row", x -> x.row(0));
    }

    private static void questionsOfTexts() {
        CHECK.says("46: law() changes nothing but THE TEXT, which it empties");
        for (String text : new String[] {"", "s", "-s", "o*2+e-w*l<n", "1"}) {
            StruckColours x = busyWith(text);
            x.law();
            CHECK.due(text + ": THE TEXT is empty", x.count(11), 0);
            CHECK.due(text + ": all stays", allOf(x).equals(allOf(busyWith(""))), true);
        }
    }
}
