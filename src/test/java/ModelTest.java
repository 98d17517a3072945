import java.util.NoSuchElementException;
import java.util.Random;

/** Long runs of calls, drawn by seeds, on the class and on the model; after each call all that can be seen is like. */
public final class ModelTest {
    private static final int RUNS = 1200;
    private static final int CALLS = 400;
    private static final int MOST_TOLD = 80;

    private final Random random;
    private final StruckColours x = new StruckColours();
    private final Model m = new Model();
    private String call = "";
    private int calls;

    private ModelTest(long seed) {
        random = new Random(seed);
    }

    public static void main(String[] args) {
        for (int seed = 1; seed <= RUNS; seed++) {
            if (!new ModelTest(seed).goes(seed)) {
                System.exit(1);
            }
        }
        System.out.println(RUNS + " runs are like the model's");
    }

    private boolean goes(int seed) {
        StringBuilder log = new StringBuilder();
        for (calls = 0; calls < CALLS;) {
            boolean like = step();
            log.append(call).append('\n');
            if (!like || !isLike()) {
                System.out.println("run " + seed + ":\n" + log);
                return false;
            }
        }
        return true;
    }

    private int between(int low, int high) {
        return low + random.nextInt(high - low + 1);
    }

    private int ship() {
        return random.nextInt(30) == 0 ? between(-2, 7) : random.nextInt(Math.max(1, m.state.ships.size()));
    }

    private int side() {
        return random.nextInt(30) == 0 ? between(-2, 5) : random.nextInt(4);
    }

    private boolean like(String what, long got, long want) {
        call = what + " = " + got + (got == want ? "" : ", due is " + want);
        return got == want;
    }

    private boolean like(String what, boolean got, boolean want) {
        return like(what, got ? 1 : 0, want ? 1 : 0);
    }

    /** Everything that questions without a row tell; these calls are not counted. */
    private boolean isLike() {
        for (int what = -1; what <= 14; what++) {
            if (x.count(what) != m.count(what)) {
                return like("count(" + what + ")", x.count(what), m.count(what)) || report();
            }
        }
        for (int i = -1; i <= m.row.size(); i++) {
            long got;
            try {
                got = x.row(i);
            } catch (NoSuchElementException e) {
                got = Long.MIN_VALUE;
            }
            if (got != m.row(i)) {
                return like("row(" + i + ")", got, m.row(i)) || report();
            }
        }
        for (int s = -1; s <= m.state.ships.size(); s++) {
            for (int what = -1; what <= 9; what++) {
                long got;
                try {
                    got = x.ship(s, what);
                } catch (NoSuchElementException e) {
                    got = Long.MIN_VALUE;
                }
                if (got != m.ship(s, what)) {
                    return like("ship(" + s + ", " + what + ")", got, m.ship(s, what)) || report();
                }
            }
        }
        return true;
    }

    private boolean report() {
        System.out.println("behind this run: " + call);
        return false;
    }

    private boolean tells(String text) {
        boolean like = true;
        for (int i = 0; i < text.length(); i += 4) {
            int v = 0;
            for (int k = 0; k < 4; k++) {
                v = v << 8 | (i + k < text.length() ? text.charAt(i + k) : random.nextInt(256));
            }
            calls++;
            like &= like("sign(" + v + ")", x.sign(v), m.sign(v));
        }
        int n = text.length();
        calls++;
        return like & like("end(" + n + ") of " + text, x.end(n), m.end(n));
    }

    private String spoilt(String text) {
        if (text.isEmpty() || random.nextInt(4) != 0) {
            return text;
        }
        int p = random.nextInt(text.length());
        String signs = "soewln0123456789+-*/<>=();abcdfy~ ";
        String sign = "" + signs.charAt(random.nextInt(signs.length()));
        int how = random.nextInt(3);
        return text.substring(0, p) + (how == 0 ? "" : sign) + text.substring(how == 2 ? p : p + 1);
    }

    private String expression(int depth) {
        switch (random.nextInt(depth > 5 ? 2 : 6)) {
            case 0: return "" + "soewln".charAt(random.nextInt(6));
            case 1: return "" + random.nextInt(random.nextBoolean() ? 10 : 1000);
            case 2: return "-" + expression(depth + 1);
            case 3: return "(" + expression(depth + 1) + ")";
            default: return expression(depth + 1) + "+-*/+-*/<>=".charAt(random.nextInt(11)) + expression(depth + 1);
        }
    }

    private String lines() {
        StringBuilder text = new StringBuilder();
        int n = between(0, random.nextInt(5) == 0 ? 7 : 3);
        for (int i = 0; i < n; i++) {
            text.append(i > 0 ? ";" : "").append((char) ('a' + random.nextInt(4))).append(between(1, 9));
        }
        return text.toString();
    }

    private String acts() {
        StringBuilder text = new StringBuilder();
        int n = between(0, random.nextInt(5) == 0 ? 24 : 8);
        for (int i = 0; i < n; i++) {
            char letter = (char) ('a' + random.nextInt(4));
            int a = Math.max(0, ship());
            switch (random.nextInt(6)) {
                case 0: text.append('n').append(random.nextInt(3)); break;
                case 1: text.append('s').append(a).append(letter).append(between(1, 5)); break;
                case 2: text.append(random.nextInt(3) == 0 ? "y" + a + letter : "n1"); break;
                default: text.append('f').append(a).append(Math.max(0, ship())); break;
            }
        }
        return text.length() > MOST_TOLD ? text.substring(0, MOST_TOLD) : text.toString();
    }

    private boolean step() {
        calls++;
        if (m.state.ships.size() < 2 && random.nextInt(3) == 0) {
            return tells(spoilt(lines())) && like("ships()", x.ships(), m.ships());
        }
        int kind = random.nextInt(100);
        return kind < 40 ? changes(kind) : kind < 70 ? asksOfShips(kind) : asksMore(kind);
    }

    private boolean changes(int kind) {
        int a = ship();
        int b = ship();
        int s = side();
        int n = random.nextInt(20) == 0 ? between(-1, 14) : between(1, 5);
        if (kind < 15) {
            return like("fight(" + a + ", " + b + ")", x.fight(a, b), m.fight(a, b));
        }
        if (kind < 18) {
            int d = random.nextInt(10) == 0 ? between(-1, 62) : between(0, 3);
            return like("days(" + d + ")", x.days(d), m.days(d));
        }
        if (kind < 23) {
            return like("sews(" + a + ", " + s + ", " + n + ")", x.sews(a, s, n), m.sews(a, s, n));
        }
        if (kind < 24) {
            return like("yields(" + a + ", " + s + ")", x.yields(a, s), m.yields(a, s));
        }
        if (kind < 28) {
            return tells(spoilt(acts())) && like("war()", x.war(), m.war());
        }
        if (kind < 31) {
            return like("undo()", x.undo(), m.undo());
        }
        if (kind < 33) {
            return tells(spoilt(lines())) && like("ships()", x.ships(), m.ships());
        }
        if (kind < 35) {
            String text = expression(0);
            text = text.length() > 60 ? text.substring(0, 60) : text;
            return tells(random.nextInt(9) == 0 ? "" : spoilt(text)) && like("rule()", x.rule(), m.rule());
        }
        return kind < 36 ? sheets(n) : kind < 37 ? like("take(" + (n - 1) + ")", x.take(n - 1), m.take(n - 1))
            : keeps(kind);
    }

    private boolean sheets(int n) {
        int kind = between(-1, 4);
        int f = random.nextInt(3) == 0 ? random.nextInt() : between(-3, 300);
        int step = random.nextInt(3) == 0 ? random.nextInt() : between(-3, 300);
        return like("sheet(" + kind + ", " + n + ", " + f + ", " + step + ")", x.sheet(kind, n, f, step),
            m.sheet(kind, n, f, step));
    }

    private boolean keeps(int kind) {
        int i = random.nextInt(9) == 0 ? between(-1, 2) : random.nextInt(2);
        if (kind < 38) {
            return like("keep(" + i + ")", x.keep(i), m.keep(i));
        }
        if (kind < 39) {
            return like("again(" + i + ")", x.again(i), m.again(i));
        }
        int n = between(-1, m.text.length() + 1);
        return like("end(" + n + ")", x.end(n), m.end(n)) && like("sign(" + n + ")", x.sign(n), m.sign(n));
    }

    private boolean asksOfShips(int kind) {
        int a = ship();
        int b = ship();
        int s = side();
        int n = between(-1, 21);
        switch (kind) {
            case 40: return like("fleet(" + s + ")", x.fleet(s), m.fleet(s));
            case 41: return like("share(" + s + ")", x.share(s), m.share(s));
            case 42: return like("later(" + a + ", " + n + ")", x.later(a, n), m.later(a, n));
            case 43: return like("whole(" + a + ")", x.whole(a), m.whole(a));
            case 44: return like("sisters()", x.sisters(), m.sisters());
            case 45: return like("motley()", x.motley(), m.motley());
            case 46: return like("order(" + s + ")", x.order(s), m.order(s));
            case 47: return like("rivals(" + a + ")", x.rivals(a), m.rivals(a));
            case 48:
            case 49: return like("duel(" + a + ", " + b + ", " + n + ")", x.duel(a, b, n), m.duel(a, b, n));
            case 50:
            case 51: return like("tempts(" + s + ")", x.tempts(s), m.tempts(s));
            case 52:
            case 53: return like("wins(" + a + ", " + b + ")", x.wins(a, b), m.wins(a, b));
            case 54:
            case 55: return like("suits(" + a + ", " + s + ")", x.suits(a, s), m.suits(a, s));
            case 56: return like("goesOver(" + a + ", " + s + ")", x.goesOver(a, s), m.goesOver(a, s));
            case 57: return like("peace()", x.peace(), m.peace());
            case 58:
            case 59: return like("campaign(" + 2 * n + ")", x.campaign(2 * n), m.campaign(2 * n));
            case 60:
            case 61: return like("halves(" + s + ")", x.halves(s), m.halves(s));
            case 62: return like("evens()", x.evens(), m.evens());
            case 63: return like("worth(" + a + ")", x.worth(a), m.worth(a));
            case 64:
            case 65: return like("patched(" + s + ", " + n + ")", x.patched(s, n), m.patched(s, n));
            default: return like("force(" + a + ", " + b + ")", x.force(a, b), m.force(a, b));
        }
    }

    private boolean asksMore(int kind) {
        int a = between(-1, 31);
        int b = between(-1, 31);
        if (kind < 74) {
            int what = between(-1, 5);
            int v = random.nextInt(9) == 0 ? between(-1, 101) : random.nextInt(4);
            return like("seen(" + what + ", " + v + ")", x.seen(what, v), m.seen(what, v));
        }
        if (kind < 78) {
            int o = between(-1, 13);
            int e = random.nextInt(5) == 0 ? between(-1, 13) : random.nextInt(Math.max(1, 13 - o));
            int is = random.nextInt(9) == 0 ? between(-1, 2) : o < 6 ? 1 : 0;
            return like("told(" + o + ", " + e + ", " + is + ")", x.told(o, e, is), m.told(o, e, is));
        }
        switch (kind) {
            case 78: return random.nextInt(3) > 0 || like("forget()", x.forget(), m.forget());
            case 79:
            case 80: return like("fits()", x.fits(), m.fits());
            case 81:
            case 82: return like("looks()", x.looks(), m.looks());
            case 83: return random.nextInt(3) > 0 || like("deny()", x.deny(), m.deny());
            case 84:
            case 85: return like("laws()", x.laws(), m.laws());
            case 86:
            case 87: return like("asks()", x.asks(), m.asks());
            case 88: return like("treaty(" + a + ", " + b + ")", x.treaty(a, b), m.treaty(a, b));
            case 89: return like("series(" + a / 3 + ", " + b / 3 + ", " + a % 12 + ")", x.series(a / 3, b / 3, a % 12),
                m.series(a / 3, b / 3, a % 12));
            case 90: return like("rests(" + a + ")", x.rests(a), m.rests(a));
            case 91:
            case 92:
            case 93:
                String text = expression(0);
                return tells(spoilt(text.length() > 60 ? "" : text)) && like("law()", x.law(), m.law());
            default:
                int seed = random.nextInt();
                int n = between(-1, 61);
                return like("years(" + seed + ", " + n + ")", x.years(seed, n), m.years(seed, n));
        }
    }
}
