import java.math.BigInteger;
import java.util.ArrayDeque;
import java.util.ArrayList;
import java.util.Arrays;
import java.util.Deque;
import java.util.List;

/** The document told a second time, as slowly and plainly as can be, to be compared with the class. */
final class Model {
    static final class Ship {
        int might;
        int strength;
        char side;
        int won;
        int lost;
        /** Twelve letters. */
        String flag;

        Ship copy() {
            Ship s = new Ship();
            s.might = might;
            s.strength = strength;
            s.side = side;
            s.won = won;
            s.lost = lost;
            s.flag = flag;
            return s;
        }

        int parts(int of) {
            int n = 0;
            for (char c : flag.toCharArray()) {
                n += c == of ? 1 : 0;
            }
            return n;
        }

        int own() {
            return parts(side);
        }

        void sew(char from, char to, int n) {
            for (int i = 0; i < n; i++) {
                flag = flag.replaceFirst("" + from, "" + to);
            }
        }
    }

    static final class State {
        List<Ship> ships = new ArrayList<>();
        int day;
        int overs;

        State copy() {
            State s = new State();
            for (Ship each : ships) {
                s.ships.add(each.copy());
            }
            s.day = day;
            s.overs = overs;
            return s;
        }

        int strength() {
            return ships.stream().mapToInt(s -> s.strength).sum();
        }
    }

    static final String PLAIN = "s*2+o-e";

    State state = new State();
    String text = "";
    String rule = PLAIN;
    int take = 3;
    List<Long> row = new ArrayList<>();
    Deque<State> past = new ArrayDeque<>();
    State[] kept = new State[2];
    List<int[]> seen = new ArrayList<>();
    List<int[]> told = new ArrayList<>();

    private void tells(long... numbers) {
        row.clear();
        for (long n : numbers) {
            row.add(n);
        }
    }

    private void tellsList(List<Integer> numbers) {
        row.clear();
        for (int n : numbers) {
            row.add((long) n);
        }
    }

    private void tellsFraction(BigInteger upper, BigInteger lower) {
        BigInteger g = upper.gcd(lower);
        tells(upper.divide(g).longValueExact(), lower.divide(g).longValueExact());
    }

    // ---- rules

    /** Where an expression that begins at i ends; -1 if none does. The value is left in value. */
    private static final class Reader {
        final String s;
        final State state;
        final int one;
        final int other;
        int value;

        Reader(String s, State state, int one, int other) {
            this.s = s;
            this.state = state;
            this.one = one;
            this.other = other;
        }

        char at(int i) {
            return i < s.length() ? s.charAt(i) : '\n';
        }

        int expression(int i, int depth) {
            int p = sum(i, depth);
            if (p < 0 || "<>=".indexOf(at(p)) < 0) {
                return p;
            }
            int left = value;
            char sign = at(p);
            p = sum(p + 1, depth);
            boolean is = sign == '<' ? left < value : sign == '>' ? left > value : left == value;
            value = is ? 1 : 0;
            return p;
        }

        int sum(int i, int depth) {
            int p = product(i, depth);
            while (p >= 0 && "+-".indexOf(at(p)) >= 0) {
                int left = value;
                boolean plus = at(p) == '+';
                p = product(p + 1, depth);
                value = plus ? left + value : left - value;
            }
            return p;
        }

        int product(int i, int depth) {
            int p = thing(i, depth);
            while (p >= 0 && "*/".indexOf(at(p)) >= 0) {
                int left = value;
                boolean times = at(p) == '*';
                p = thing(p + 1, depth);
                value = times ? left * value : value == 0 ? 0 : left / value;
            }
            return p;
        }

        int thing(int i, int depth) {
            char c = at(i);
            if (c == '-') {
                int p = thing(i + 1, depth);
                value = -value;
                return p;
            }
            if (c == '(') {
                int p = depth == 4 ? -1 : expression(i + 1, depth + 1);
                return p >= 0 && at(p) == ')' ? p + 1 : -1;
            }
            if (c >= '0' && c <= '9') {
                int p = i;
                value = 0;
                while (p < i + 3 && at(p) >= '0' && at(p) <= '9') {
                    value = 10 * value + at(p) - '0';
                    p++;
                }
                return p;
            }
            if ("soewln".indexOf(c) < 0) {
                return -1;
            }
            value = state == null ? 0 : letter(c);
            return i + 1;
        }

        int letter(char c) {
            Ship ship = state.ships.get(one);
            switch (c) {
                case 's': return ship.strength;
                case 'o': return ship.own();
                case 'e': return ship.parts(state.ships.get(other).side);
                case 'w': return ship.won;
                case 'l': return ship.lost;
                default: return state.day % 7;
            }
        }
    }

    static boolean isRule(String s) {
        return new Reader(s, null, 0, 0).expression(0, 0) == s.length();
    }

    /** Whether a text could go on or end as a rule, some way. */
    static boolean isRuleBegin(String s) {
        for (String thing : new String[] {"", "0"}) {
            String end = thing;
            for (int brackets = 0; brackets <= 4; brackets++) {
                if (isRule(s + end)) {
                    return true;
                }
                end += ")";
            }
        }
        return false;
    }

    static int ruleFault(String s) {
        for (int p = 0; p < s.length(); p++) {
            if (p == 40 || !isRuleBegin(s.substring(0, p + 1))) {
                return p;
            }
        }
        return isRule(s) ? -1 : s.length();
    }

    static int force(String rule, State state, int one, int other) {
        Reader reader = new Reader(rule, state, one, other);
        reader.expression(0, 0);
        return reader.value;
    }

    private String takesText() {
        String s = text;
        text = "";
        return s;
    }

    private boolean has(int ship) {
        return ship >= 0 && ship < state.ships.size();
    }

    private boolean pair(int one, int other) {
        return has(one) && has(other) && one != other;
    }

    private static boolean side(int side) {
        return side >= 0 && side <= 3;
    }

    // ---- the sea

    private static void mayGoOver(State state, Ship ship) {
        char most = 'a';
        for (char c = 'b'; c <= 'd'; c++) {
            most = ship.parts(c) > ship.parts(most) ? c : most;
        }
        if (ship.parts(most) > ship.own()) {
            ship.side = most;
            state.overs = Math.min(9999, state.overs + 1);
        }
    }

    int battle(State s, String by, int one, int other) {
        Ship a = s.ships.get(one);
        Ship b = s.ships.get(other);
        if (a.side == b.side) {
            return -2;
        }
        int f = force(by, s, one, other);
        int g = force(by, s, other, one);
        if (f == g) {
            return -3;
        }
        Ship winner = f > g ? a : b;
        Ship loser = f > g ? b : a;
        winner.sew(winner.side, loser.side, Math.min(take, winner.own()));
        winner.won = Math.min(99, winner.won + 1);
        loser.lost = Math.min(99, loser.lost + 1);
        loser.strength = Math.max(0, loser.strength - 1);
        mayGoOver(s, winner);
        mayGoOver(s, loser);
        return f > g ? one : other;
    }

    static void day(State s) {
        for (Ship ship : s.ships) {
            ship.strength = Math.min(ship.might, ship.strength + 1);
            char fewest = 0;
            for (char c = 'a'; c <= 'd'; c++) {
                if (c != ship.side && ship.parts(c) > 0
                        && (fewest == 0 || ship.parts(c) < ship.parts(fewest))) {
                    fewest = c;
                }
            }
            if (fewest != 0) {
                ship.sew(fewest, ship.side, 1);
            }
        }
        s.day++;
    }

    static int sewing(State s, int ship, int side, int n) {
        if (ship < 0 || ship >= s.ships.size() || !side(side) || n < 1 || n > 12) {
            return -1;
        }
        Ship her = s.ships.get(ship);
        if (her.own() < n) {
            return -2;
        }
        if (her.side == 'a' + side) {
            return -3;
        }
        her.sew(her.side, (char) ('a' + side), n);
        mayGoOver(s, her);
        return her.side - 'a';
    }

    static int yielding(State s, int ship, int side) {
        if (ship < 0 || ship >= s.ships.size() || !side(side)) {
            return -1;
        }
        Ship her = s.ships.get(ship);
        int others = 12 - her.parts('a' + side);
        if (others == 0) {
            return -2;
        }
        her.side = (char) ('a' + side);
        her.flag = ("" + her.side).repeat(12);
        return others;
    }

    private void adds(State before) {
        past.addLast(before);
        if (past.size() > 12) {
            past.removeFirst();
        }
    }

    // ---- the face

    int sign(int v) {
        if (text.length() + 4 > 80) {
            return -1;
        }
        text += "" + (char) (v >>> 24) + (char) (v >>> 16 & 255) + (char) (v >>> 8 & 255) + (char) (v & 255);
        return text.length();
    }

    boolean end(int n) {
        if (n < 0 || n > text.length()) {
            return false;
        }
        text = text.substring(0, n);
        return true;
    }

    int ships() {
        String s = takesText();
        if (s.isEmpty()) {
            return 0;
        }
        int room = 6 - state.ships.size();
        for (int p = 0; p <= s.length(); p++) {
            boolean can;
            if (p == s.length()) {
                can = p % 3 == 2;
            } else if (p == 17) {
                can = false;
            } else if (p % 3 == 0) {
                can = p / 3 < room && "abcd".indexOf(s.charAt(p)) >= 0;
            } else {
                can = (p % 3 == 1 ? "123456789" : ";").indexOf(s.charAt(p)) >= 0;
            }
            if (!can) {
                return -1 - p;
            }
        }
        String[] lines = s.split(";");
        for (String line : lines) {
            Ship ship = new Ship();
            ship.side = line.charAt(0);
            ship.might = line.charAt(1) - '0';
            ship.strength = ship.might;
            ship.flag = ("" + ship.side).repeat(12);
            state.ships.add(ship);
        }
        past.clear();
        Arrays.fill(kept, null);
        return lines.length;
    }

    int rule() {
        String s = takesText();
        if (s.isEmpty()) {
            rule = PLAIN;
            return 0;
        }
        int fault = ruleFault(s);
        if (fault >= 0) {
            return -1 - fault;
        }
        rule = s;
        return 0;
    }

    /** Long.MIN_VALUE: it throws. */
    long ship(int ship, int what) {
        if (!has(ship) || what < 0 || what > 8) {
            return Long.MIN_VALUE;
        }
        Ship s = state.ships.get(ship);
        int[] all = {s.might, s.strength, s.side - 'a', s.parts('a'), s.parts('b'), s.parts('c'), s.parts('d'),
            s.won, s.lost};
        return all[what];
    }

    int force(int one, int other) {
        return pair(one, other) ? 1000 + Math.max(-999, Math.min(999, force(rule, state, one, other))) : -1;
    }

    int take(int v) {
        if (v < 1 || v > 6) {
            return -1;
        }
        int old = take;
        take = v;
        return old;
    }

    int sheet(int kind, int n, int f, int step) {
        if (kind < 0 || kind > 3 || n > 6) {
            return -1;
        }
        if (kind == 3) {
            state.ships.forEach(s -> s.strength = 0);
            return -3;
        }
        if (n < 0) {
            return -2;
        }
        int value = f;
        for (int i = 0; i < state.ships.size(); i++) {
            int v = i >= n ? 0 : kind == 0 ? (byte) value : kind == 1 ? (short) value : value;
            Ship s = state.ships.get(i);
            s.strength = Math.max(0, Math.min(s.might, v));
            value += step;
        }
        return state.strength();
    }

    int fight(int one, int other) {
        if (!pair(one, other)) {
            return -1;
        }
        State before = state.copy();
        int winner = battle(state, rule, one, other);
        if (winner >= 0) {
            adds(before);
        }
        return winner;
    }

    int days(int n) {
        if (n < 0 || n > 60) {
            return -1;
        }
        if (n > 0) {
            adds(state.copy());
        }
        for (int i = 0; i < n; i++) {
            day(state);
        }
        tells(parts('a'), parts('b'), parts('c'), parts('d'));
        return state.strength();
    }

    private int parts(int of) {
        return state.ships.stream().mapToInt(s -> s.parts(of)).sum();
    }

    int sews(int ship, int side, int n) {
        State before = state.copy();
        int answer = sewing(state, ship, side, n);
        if (answer >= 0) {
            adds(before);
        }
        return answer;
    }

    int yields(int ship, int side) {
        State before = state.copy();
        int answer = yielding(state, ship, side);
        if (answer >= 0) {
            adds(before);
        }
        return answer;
    }

    static boolean isWarBegin(String s) {
        String act = "(f[0-9][0-9]|n[0-9]|s[0-9][a-d][1-9]|y[0-9][a-d])";
        String begin = "(|f|f[0-9]|n|s|s[0-9]|s[0-9][a-d]|y|y[0-9])";
        return s.matches(act + "*" + begin);
    }

    int war() {
        String s = takesText();
        for (int p = 0; p < s.length(); p++) {
            if (p == 60 || !isWarBegin(s.substring(0, p + 1))) {
                return -1 - p;
            }
        }
        if (!s.matches("(f[0-9][0-9]|n[0-9]|s[0-9][a-d][1-9]|y[0-9][a-d])*")) {
            return -1 - s.length();
        }
        State before = state.copy();
        int done = 0;
        boolean stopped = false;
        String rest = s;
        while (!rest.isEmpty() && !stopped) {
            int a = rest.charAt(1) - '0';
            int answer = 0;
            int length = 3;
            if (rest.charAt(0) == 'f') {
                int b = rest.charAt(2) - '0';
                answer = pair(a, b) ? battle(state, rule, a, b) : -1;
                answer = answer == -3 ? 0 : answer;
            } else if (rest.charAt(0) == 'n') {
                for (int i = 0; i < a; i++) {
                    day(state);
                }
                length = 2;
            } else if (rest.charAt(0) == 's') {
                answer = sewing(state, a, rest.charAt(2) - 'a', rest.charAt(3) - '0');
                length = 4;
            } else {
                answer = yielding(state, a, rest.charAt(2) - 'a');
            }
            stopped = answer < 0;
            done += stopped ? 0 : 1;
            rest = rest.substring(length);
        }
        if (done > 0) {
            adds(before);
        }
        tells(stopped ? 1 : 0, state.overs);
        return done;
    }

    int undo() {
        if (past.isEmpty()) {
            return -1;
        }
        state = past.removeLast();
        return past.size();
    }

    int fleet(int side) {
        if (!side(side)) {
            return -1;
        }
        int bits = 0;
        int strength = 0;
        for (int i = 0; i < state.ships.size(); i++) {
            if (state.ships.get(i).side == 'a' + side) {
                bits += 1 << i;
                strength += state.ships.get(i).strength;
            }
        }
        tells(strength, parts('a' + side));
        return bits;
    }

    int share(int side) {
        if (!side(side) || state.ships.isEmpty()) {
            return -1;
        }
        tellsFraction(BigInteger.valueOf(parts('a' + side)), BigInteger.valueOf(12 * state.ships.size()));
        return 0;
    }

    int later(int ship, int n) {
        if (!has(ship) || n < 0 || n > 99) {
            return -1;
        }
        State s = state.copy();
        for (int i = 0; i < n; i++) {
            day(s);
        }
        Ship her = s.ships.get(ship);
        tells(her.parts('a'), her.parts('b'), her.parts('c'), her.parts('d'));
        return her.side - 'a';
    }

    int whole(int ship) {
        if (!has(ship)) {
            return -1;
        }
        State s = state.copy();
        int days = 0;
        while (s.ships.get(ship).flag.chars().distinct().count() > 1) {
            day(s);
            days++;
        }
        tells(s.ships.get(ship).flag.charAt(0) - 'a');
        return days;
    }

    int sisters() {
        int n = state.ships.size();
        if (n < 2) {
            return -2;
        }
        int best = 99;
        for (int i = 0; i < n; i++) {
            for (int k = i + 1; k < n; k++) {
                int d = 0;
                for (char c = 'a'; c <= 'd'; c++) {
                    d += Math.abs(state.ships.get(i).parts(c) - state.ships.get(k).parts(c));
                }
                if (d < best) {
                    best = d;
                    tells(i, k);
                }
            }
        }
        return best;
    }

    int motley() {
        if (state.ships.isEmpty()) {
            return -2;
        }
        int best = 0;
        for (int i = 0; i < state.ships.size(); i++) {
            best = state.ships.get(i).own() < state.ships.get(best).own() ? i : best;
        }
        Ship s = state.ships.get(best);
        tells(12 - s.own(), s.flag.chars().filter(c -> c != s.side).distinct().count());
        return best;
    }

    int order(int side) {
        if (!side(side)) {
            return -1;
        }
        List<Integer> ships = new ArrayList<>();
        for (int i = 0; i < state.ships.size(); i++) {
            ships.add(i);
        }
        ships.sort((x, y) -> state.ships.get(y).parts('a' + side) - state.ships.get(x).parts('a' + side));
        tellsList(ships);
        return (int) state.ships.stream().filter(s -> s.parts('a' + side) > 0).count();
    }

    int rivals(int ship) {
        if (!has(ship)) {
            return -1;
        }
        int[] bits = new int[3];
        for (int i = 0; i < state.ships.size(); i++) {
            if (i != ship) {
                int w = battle(state.copy(), rule, ship, i);
                if (w != -2) {
                    bits[w == ship ? 0 : w == i ? 1 : 2] += 1 << i;
                }
            }
        }
        tells(bits[1], bits[2]);
        return bits[0];
    }

    int duel(int one, int other, int n) {
        if (!pair(one, other) || n < 1 || n > 20) {
            return -1;
        }
        State s = state.copy();
        int first = 0;
        int all = 0;
        while (all < n) {
            int w = battle(s, rule, one, other);
            if (w < 0) {
                break;
            }
            all++;
            first += w == one ? 1 : 0;
            day(s);
        }
        tells(first, s.ships.get(one).side - 'a', s.ships.get(other).side - 'a');
        return all;
    }

    int tempts(int side) {
        if (!side(side)) {
            return -1;
        }
        int best = 99;
        for (int i = 0; i < state.ships.size(); i++) {
            for (int n = 1; n < best && n <= 12; n++) {
                if (state.ships.get(i).side != 'a' + side && sewing(state.copy(), i, side, n) == side) {
                    best = n;
                    tells(i);
                }
            }
        }
        return best == 99 ? -2 : best;
    }

    int wins(int one, int other) {
        if (!pair(one, other)) {
            return -1;
        }
        State s = state.copy();
        int w = battle(s, rule, one, other);
        if (w >= 0) {
            tells(s.ships.get(one).side - 'a', s.ships.get(other).side - 'a');
        }
        return w;
    }

    int suits(int ship, int side) {
        if (!has(ship) || !side(side)) {
            return -1;
        }
        int best = -2;
        int most = -1;
        for (int i = 0; i < state.ships.size(); i++) {
            State s = state.copy();
            if (i != ship && battle(s, rule, ship, i) >= 0 && s.ships.get(ship).parts('a' + side) > most) {
                best = i;
                most = s.ships.get(ship).parts('a' + side);
                tells(most);
            }
        }
        return best;
    }

    int goesOver(int ship, int side) {
        return has(ship) && side(side) ? fewest(ship, 'a' + side) : -1;
    }

    int peace() {
        return fewest(-1, 0);
    }

    private int fewest(int ship, int side) {
        List<State> states = new ArrayList<>(List.of(state));
        List<List<Integer>> ways = new ArrayList<>(List.of(List.of()));
        for (int fights = 0; fights <= 3; fights++) {
            List<State> nextStates = new ArrayList<>();
            List<List<Integer>> nextWays = new ArrayList<>();
            for (int k = 0; k < states.size(); k++) {
                State s = states.get(k);
                boolean there = ship >= 0 ? s.ships.get(ship).side == side
                    : s.ships.stream().map(x -> x.side).distinct().count() <= 1;
                if (there) {
                    tellsList(ways.get(k));
                    return fights;
                }
                for (int i = 0; i < s.ships.size() && fights < 3; i++) {
                    for (int j = i + 1; j < s.ships.size(); j++) {
                        State t = s.copy();
                        if (battle(t, rule, i, j) >= 0) {
                            List<Integer> way = new ArrayList<>(ways.get(k));
                            way.add(i);
                            way.add(j);
                            nextStates.add(t);
                            nextWays.add(way);
                        }
                    }
                }
            }
            states = nextStates;
            ways = nextWays;
        }
        return -2;
    }

    int campaign(int n) {
        if (n < 0 || n > 40) {
            return -1;
        }
        State s = state.copy();
        for (int r = 0; r < n; r++) {
            boolean fought = false;
            for (int i = 0; i < s.ships.size() && !fought; i++) {
                for (int j = i + 1; j < s.ships.size() && !fought; j++) {
                    fought = battle(s, rule, i, j) >= 0;
                }
            }
            day(s);
        }
        row.clear();
        s.ships.forEach(x -> row.add((long) (x.side - 'a')));
        return s.overs - state.overs;
    }

    int halves(int side) {
        if (!side(side)) {
            return -1;
        }
        for (int k = 1; k <= 6; k++) {
            for (int bits = 1; bits < 1 << state.ships.size(); bits++) {
                int sum = 0;
                for (int i = 0; i < 6; i++) {
                    sum += (bits >> i & 1) == 1 ? state.ships.get(i).parts('a' + side) - 6 : 0;
                }
                if (Integer.bitCount(bits) == k && sum == 0) {
                    tells(bits);
                    return k;
                }
            }
        }
        return -2;
    }

    int evens() {
        int best = Integer.MAX_VALUE;
        for (int bits = 0; bits < 1 << state.ships.size(); bits++) {
            if ((bits & 1) == 1) {
                continue;
            }
            int d = 0;
            for (int i = 0; i < state.ships.size(); i++) {
                d += (bits >> i & 1) == 1 ? state.ships.get(i).strength : -state.ships.get(i).strength;
            }
            if (Math.abs(d) < best) {
                best = Math.abs(d);
                tells(bits);
            }
        }
        return best;
    }

    int worth(int ship) {
        if (!has(ship)) {
            return -1;
        }
        int[] counts = new int[2];
        orders(ship, 0, 0, counts);
        tellsFraction(BigInteger.valueOf(counts[0]), BigInteger.valueOf(counts[1]));
        return 0;
    }

    private void orders(int ship, int bits, int sum, int[] counts) {
        if (bits == (1 << state.ships.size()) - 1) {
            counts[1]++;
            return;
        }
        for (int i = 0; i < state.ships.size(); i++) {
            if ((bits >> i & 1) == 0) {
                int then = sum + state.ships.get(i).strength;
                int all = state.strength();
                if (i == ship && 2 * sum <= all && 2 * then > all) {
                    int rest = state.ships.size() - Integer.bitCount(bits) - 1;
                    int ways = 1;
                    for (int k = 2; k <= rest; k++) {
                        ways *= k;
                    }
                    counts[0] += ways;
                }
                orders(ship, bits | 1 << i, then, counts);
            }
        }
    }

    int patched(int side, int k) {
        if (!side(side) || k < 0 || k > 12) {
            return -1;
        }
        int bits = 0;
        for (int i = 0; i < state.ships.size(); i++) {
            bits += state.ships.get(i).parts('a' + side) >= k ? 1 << i : 0;
        }
        tells(Integer.bitCount(bits), state.ships.stream().mapToInt(s -> s.parts('a' + side)).max().orElse(0));
        return bits;
    }

    int seen(int what, int v) {
        int[] most = {3, 9, 3, 99, 1};
        if (what < 0 || what > 4 || v < 0 || v > most[what] || seen.size() == 12) {
            return -1;
        }
        seen.add(new int[] {what, v});
        return seen.size();
    }

    int forget() {
        int n = seen.size();
        seen.clear();
        return n;
    }

    private int fitting() {
        int bits = 0;
        for (int i = 0; i < state.ships.size(); i++) {
            Ship s = state.ships.get(i);
            boolean all = true;
            for (int[] x : seen) {
                boolean[] is = {s.side == 'a' + x[1], s.strength >= x[1], s.flag.indexOf('a' + x[1]) >= 0,
                    s.won >= x[1], Math.min(1, s.lost) == x[1]};
                all &= is[x[0]];
            }
            bits += all ? 1 << i : 0;
        }
        return bits;
    }

    int fits() {
        tells(Integer.bitCount(fitting()));
        return fitting();
    }

    int looks() {
        int bits = fitting();
        if (bits == 0) {
            return -2;
        }
        int best = -1;
        int least = 99;
        for (int side = 0; side < 4; side++) {
            int with = 0;
            int without = 0;
            for (int i = 0; i < 6; i++) {
                if ((bits >> i & 1) == 1) {
                    if (state.ships.get(i).flag.indexOf('a' + side) >= 0) {
                        with++;
                    } else {
                        without++;
                    }
                }
            }
            if (Math.max(with, without) < least) {
                least = Math.max(with, without);
                best = side;
            }
        }
        tells(least);
        return best;
    }

    int told(int o, int e, int is) {
        if (o < 0 || e < 0 || o > 12 || e > 12 || o + e > 12 || is < 0 || is > 1 || told.size() == 12) {
            return -1;
        }
        told.add(new int[] {o, e, is});
        return told.size();
    }

    int deny() {
        int n = told.size();
        told.clear();
        return n;
    }

    private static boolean over(int[] law, int o, int e) {
        return o < law[0] || e >= o + law[1];
    }

    private List<int[]> lawful() {
        List<int[]> laws = new ArrayList<>();
        for (int t = 0; t <= 12; t++) {
            for (int d = 0; d <= 12; d++) {
                int[] law = {t, d};
                if (told.stream().allMatch(x -> over(law, x[0], x[1]) == (x[2] == 1))) {
                    laws.add(law);
                }
            }
        }
        return laws;
    }

    int laws() {
        List<int[]> laws = lawful();
        row.clear();
        if (!laws.isEmpty()) {
            tells(laws.get(0)[0], laws.get(0)[1]);
        }
        return laws.size();
    }

    int asks() {
        List<int[]> laws = lawful();
        if (laws.isEmpty()) {
            return -2;
        }
        int best = -1;
        int least = 999;
        for (int ask = 0; ask < 169; ask++) {
            int o = ask / 13;
            int e = ask % 13;
            if (o + e <= 12) {
                int n = (int) laws.stream().filter(law -> over(law, o, e)).count();
                int most = Math.max(n, laws.size() - n);
                if (most < least) {
                    least = most;
                    best = ask;
                }
            }
        }
        tells(least);
        return best;
    }

    private static final boolean[][] WINS = new boolean[31][31];

    static {
        for (int a = 0; a <= 30; a++) {
            for (int b = 0; b <= 30; b++) {
                for (int k = 1; k <= 30; k++) {
                    WINS[a][b] |= k <= a && !WINS[a - k][b];
                    WINS[a][b] |= k <= b && !WINS[a][b - k];
                    WINS[a][b] |= k <= a && k <= b && !WINS[a - k][b - k];
                }
            }
        }
    }

    int treaty(int a, int b) {
        if (a < 0 || b < 0 || a > 30 || b > 30) {
            return -1;
        }
        row.clear();
        for (int x = 0; x <= a && WINS[a][b]; x++) {
            for (int y = 0; y <= b && row.isEmpty(); y++) {
                if (x + y > 0 && (x == 0 || y == 0 || x == y) && !WINS[a - x][b - y]) {
                    tells(x, y);
                }
            }
        }
        return WINS[a][b] ? 1 : 0;
    }

    int series(int k, int m, int p) {
        if (k < 1 || k > 8 || m < 1 || m > 8 || p < 0 || p > 10) {
            return -1;
        }
        BigInteger[][] up = new BigInteger[k + 1][m + 1];
        for (int i = 0; i <= k; i++) {
            for (int j = 0; j <= m; j++) {
                // How likely it is with i and j to go, by 10 to the power of i + j.
                up[i][j] = i == 0 ? BigInteger.TEN.pow(j) : j == 0 ? BigInteger.ZERO
                    : up[i - 1][j].multiply(BigInteger.valueOf(p)).add(up[i][j - 1].multiply(BigInteger.valueOf(10 - p)));
            }
        }
        tellsFraction(up[k][m], BigInteger.TEN.pow(k + m));
        return 0;
    }

    int rests(int v) {
        if (v < 0 || v > 20) {
            return -1;
        }
        row.clear();
        int n = 0;
        for (int x = 0; x <= 9; x++) {
            for (int y = 0; y <= 9; y++) {
                boolean rest = true;
                for (int z = 0; z <= 9; z++) {
                    rest &= gain(v, z, y) <= gain(v, x, y) && gain(v, z, x) <= gain(v, y, x);
                }
                if (rest && n++ == 0) {
                    tells(x, y);
                }
            }
        }
        return n;
    }

    private static int gain(int v, int mine, int theirs) {
        int g = -mine;
        if (mine > theirs) {
            g += v;
        }
        if (mine == theirs) {
            g += v / 2;
        }
        if (mine >= theirs + 3) {
            g -= 2;
        }
        return g;
    }

    int law() {
        String s = takesText();
        if (s.isEmpty()) {
            s = PLAIN;
        }
        int fault = ruleFault(s);
        if (fault >= 0) {
            return -10000 - fault;
        }
        int[] n = new int[2];
        for (int i = 0; i < state.ships.size(); i++) {
            for (int j = i + 1; j < state.ships.size(); j++) {
                n[0] += battle(state.copy(), s, i, j) == i ? 1 : 0;
                n[1] += battle(state.copy(), rule, i, j) == i ? 1 : 0;
            }
        }
        tells(n[0], n[1]);
        return n[0] - n[1];
    }

    private long drawn;

    private int draw(int n) {
        drawn = (drawn * 1103515245L + 12345L) & 0xFFFFFFFFL;
        return (int) (drawn / 65536 % n);
    }

    int years(int seed, int n) {
        if (n < 1 || n > 60) {
            return -1;
        }
        State s = state.copy();
        drawn = seed & 0xFFFFFFFFL;
        for (int i = 0; i < n; i++) {
            int what = draw(4);
            if (what == 0) {
                day(s);
            } else if (!s.ships.isEmpty()) {
                int one = draw(s.ships.size());
                int other = draw(what == 3 ? 4 : s.ships.size());
                if (what == 3) {
                    sewing(s, one, other, 1);
                } else if (one != other) {
                    battle(s, rule, one, other);
                }
            }
        }
        tells(s.strength(), s.ships.stream().mapToInt(x -> x.won).sum());
        return s.overs - state.overs;
    }

    boolean keep(int i) {
        if (i < 0 || i > 1) {
            return false;
        }
        kept[i] = state.copy();
        return true;
    }

    boolean again(int i) {
        if (i < 0 || i > 1 || kept[i] == null) {
            return false;
        }
        state = kept[i].copy();
        past.clear();
        return true;
    }

    int count(int what) {
        int wholeShips = 0;
        for (int i = 0; i < state.ships.size(); i++) {
            wholeShips += state.ships.get(i).flag.chars().distinct().count() == 1 ? 1 << i : 0;
        }
        int[] all = {state.ships.size(), take, state.day, state.overs, state.strength(),
            state.ships.stream().mapToInt(s -> s.won).sum(), state.ships.stream().mapToInt(s -> s.lost).sum(),
            seen.size(), told.size(), past.size(), row.size(), text.length(),
            state.ships.stream().mapToInt(s -> 12 - s.own()).sum(), wholeShips};
        return what < 0 || what > 13 ? -1 : all[what];
    }

    long row(int i) {
        return i < 0 || i >= row.size() ? Long.MIN_VALUE : row.get(i);
    }
}
