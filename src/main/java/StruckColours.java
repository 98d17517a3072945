import java.util.NoSuchElementException;

/** Ships that must be so much of the flags that they took: see ../shared/DOC.md for what each call promises. */
public final class StruckColours {
    public static final int NONE = -1;

    private static final int FIRST_REASON = -2;
    private static final int SECOND_REASON = -3;

    private static final int SIDES = 4;
    private static final int FLAG = 12;
    private static final int MOST_SHIPS = 6;
    private static final int MOST_TAKE = 6;
    private static final int MOST_WON = 99;
    private static final int MOST_OVERS = 9999;
    private static final int MOST_SIGNS = 80;
    private static final int SHIPS_SIGNS = 17;
    private static final int RULE_SIGNS = 40;
    private static final int WAR_SIGNS = 60;
    private static final int MOST_BRACKETS = 4;
    private static final int MOST_UNDONE = 12;
    private static final int MOST_NOTED = 12;
    private static final int MOST_FIGHTS = 3;
    private static final int MOST_CLAUSES = 30;
    private static final int MOST_YARDS = 9;
    private static final int KEPT = 2;
    private static final int LAW_FAULT = -10000;

    /** The rule that holds while none is told. */
    private static final char[] PLAIN_RULE = {'s', '*', '2', '+', 'o', '-', 'e'};

    private static final int[] FACTORIALS = {1, 1, 2, 6, 24, 120, 720};

    /** Treaties of n and COLD[n] clauses are lost for the one who is to strike out (Wythoff's pairs). */
    private static final int[] COLD = {
        0, 2, 1, 5, 7, 3, 10, 4, 13, 15, 6, 18, 20, 8, 23, 9,
        26, 28, 11, 31, 12, 34, 36, 14, 39, 41, 16, 44, 17, 47, 49};

    private final Text text = new Text();
    private final Row numbers = new Row();
    private final Sea sea = new Sea();
    private final Sea ahead = new Sea();
    private final Sea trial = new Sea();
    private final Past past = new Past();
    private final Sea keptFirst = new Sea();
    private final Sea keptSecond = new Sea();
    private final Search search = new Search();
    private final Notes sights = new Notes();
    private final Notes tales = new Notes();
    private final Laws lawful = new Laws();
    private Rule rule = new Rule();
    private Rule otherRule = new Rule();
    private int taken = 3;
    private int keptBits;
    private int drawn;

    public StruckColours() {
        rule.reads(PLAIN_RULE, PLAIN_RULE.length);
    }

    // ---- ships

    public int sign(int v) {
        if (text.length > MOST_SIGNS - 4) {
            return NONE;
        }
        for (int shift = 24; shift >= 0; shift -= 8) {
            text.add((char) (v >>> shift & 255));
        }
        return text.length;
    }

    public boolean end(int n) {
        if (n < 0 || n > text.length) {
            return false;
        }
        text.length = n;
        return true;
    }

    public int ships() {
        int length = text.empties();
        int fault = faultOfShips(length);
        if (fault != NONE) {
            return -1 - fault;
        }
        int lines = (length + 1) / 3;
        for (int line = 0; line < lines; line++) {
            sea.joins(text.at(3 * line) - 'a', text.at(3 * line + 1) - '0');
        }
        if (lines > 0) {
            past.clears();
            keptBits = 0;
        }
        return lines;
    }

    public int rule() {
        int fault = readsOtherRule();
        if (fault != NONE) {
            return -1 - fault;
        }
        Rule old = rule;
        rule = otherRule;
        otherRule = old;
        return 0;
    }

    public int ship(int ship, int what) throws NoSuchElementException {
        if (!sea.has(ship) || what < 0 || what > 8) {
            throw new NoSuchElementException("no such ship, or nothing such of her");
        }
        switch (what) {
            case 0: return sea.mightOf(ship);
            case 1: return sea.strengthOf(ship);
            case 2: return sea.sideOf(ship);
            case 7: return sea.wonOf(ship);
            case 8: return sea.lostOf(ship);
            default: return sea.parts(ship, what - 3);
        }
    }

    public int force(int one, int other) {
        if (!sea.isPair(one, other)) {
            return NONE;
        }
        return 1000 + Math.max(-999, Math.min(999, rule.measures(sea, one, other)));
    }

    public int take(int v) {
        if (v < 1 || v > MOST_TAKE) {
            return NONE;
        }
        int old = taken;
        taken = v;
        return old;
    }

    public int sheet(int kind, int n, int f, int step) {
        if (kind < 0 || kind > 3 || n > MOST_SHIPS) {
            return NONE;
        }
        if (kind < 3 && n < 0) {
            return FIRST_REASON;
        }
        int entries = kind == 3 ? 0 : n;
        for (int ship = 0; ship < sea.size; ship++) {
            sea.strengthens(ship, ship < entries ? entry(kind, f + ship * step) : 0);
        }
        return kind == 3 ? SECOND_REASON : sea.strengthOfAll();
    }

    // ---- war

    public int fight(int one, int other) {
        ahead.becomes(sea);
        int winner = sea.battle(rule, taken, one, other);
        if (winner >= 0) {
            past.adds(ahead);
        }
        return winner;
    }

    public int days(int n) {
        if (n < 0 || n > 60) {
            return NONE;
        }
        if (n > 0) {
            past.adds(sea);
        }
        sea.dawns(n);
        numbers.clears();
        for (int side = 0; side < SIDES; side++) {
            numbers.adds(sea.partsOfAll(side));
        }
        return sea.strengthOfAll();
    }

    public int sews(int ship, int side, int n) {
        ahead.becomes(sea);
        int answer = sea.sewsIn(ship, side, n);
        if (answer >= 0) {
            past.adds(ahead);
        }
        return answer;
    }

    public int yields(int ship, int side) {
        ahead.becomes(sea);
        int answer = sea.strikesAll(ship, side);
        if (answer >= 0) {
            past.adds(ahead);
        }
        return answer;
    }

    public int war() {
        int length = text.empties();
        int fault = faultOfWar(length);
        if (fault != NONE) {
            return -1 - fault;
        }
        ahead.becomes(sea);
        int done = 0;
        boolean stopped = false;
        int begin = 0;
        for (int p = 0; p < length && !stopped; p++) {
            if (p == begin) {
                stopped = !acts(p);
                done += stopped ? 0 : 1;
                begin += lengthOfAct(text.at(p));
            }
        }
        if (done > 0) {
            past.adds(ahead);
        }
        numbers.clears();
        numbers.adds(stopped ? 1 : 0);
        numbers.adds(sea.overs);
        return done;
    }

    public int undo() {
        return past.returns(sea) ? past.size : NONE;
    }

    // ---- who is what

    public int fleet(int side) {
        if (!isSide(side)) {
            return NONE;
        }
        int bits = 0;
        int strength = 0;
        for (int ship = 0; ship < sea.size; ship++) {
            if (sea.sideOf(ship) == side) {
                bits |= 1 << ship;
                strength += sea.strengthOf(ship);
            }
        }
        numbers.clears();
        numbers.adds(strength);
        numbers.adds(sea.partsOfAll(side));
        return bits;
    }

    public int share(int side) {
        if (!isSide(side) || sea.size == 0) {
            return NONE;
        }
        numbers.clears();
        numbers.addsFraction(sea.partsOfAll(side), FLAG * sea.size);
        return 0;
    }

    public int later(int ship, int n) {
        if (!sea.has(ship) || n < 0 || n > 99) {
            return NONE;
        }
        trial.becomes(sea);
        trial.dawns(n);
        numbers.clears();
        for (int side = 0; side < SIDES; side++) {
            numbers.adds(trial.parts(ship, side));
        }
        return trial.sideOf(ship);
    }

    public int whole(int ship) {
        if (!sea.has(ship)) {
            return NONE;
        }
        numbers.clears();
        numbers.adds(sea.sideOf(ship));
        // A day mends just one part, always into her own side.
        return sea.strangeParts(ship);
    }

    public int sisters() {
        if (sea.size < 2) {
            return FIRST_REASON;
        }
        int least = NONE;
        for (int one = 0; one < sea.size; one++) {
            for (int other = one + 1; other < sea.size; other++) {
                int difference = sea.difference(one, other);
                if (least == NONE || difference < least) {
                    least = difference;
                    numbers.clears();
                    numbers.adds(one);
                    numbers.adds(other);
                }
            }
        }
        return least;
    }

    public int motley() {
        if (sea.size == 0) {
            return FIRST_REASON;
        }
        int best = 0;
        for (int ship = 1; ship < sea.size; ship++) {
            if (sea.strangeParts(ship) > sea.strangeParts(best)) {
                best = ship;
            }
        }
        int strangeSides = 0;
        for (int side = 0; side < SIDES; side++) {
            if (side != sea.sideOf(best) && sea.parts(best, side) > 0) {
                strangeSides++;
            }
        }
        numbers.clears();
        numbers.adds(sea.strangeParts(best));
        numbers.adds(strangeSides);
        return best;
    }

    public int order(int side) {
        if (!isSide(side)) {
            return NONE;
        }
        numbers.clears();
        int some = 0;
        for (int parts = FLAG; parts >= 0; parts--) {
            for (int ship = 0; ship < sea.size; ship++) {
                if (sea.parts(ship, side) == parts) {
                    numbers.adds(ship);
                    some += parts > 0 ? 1 : 0;
                }
            }
        }
        return some;
    }

    // ---- whom to fight

    public int rivals(int ship) {
        if (!sea.has(ship)) {
            return NONE;
        }
        int wonBits = 0;
        int lostBits = 0;
        int evenBits = 0;
        for (int other = 0; other < sea.size; other++) {
            int winner = sea.winner(rule, ship, other);
            if (winner == ship) {
                wonBits |= 1 << other;
            } else if (winner == other) {
                lostBits |= 1 << other;
            } else if (winner == SECOND_REASON) {
                evenBits |= 1 << other;
            }
        }
        numbers.clears();
        numbers.adds(lostBits);
        numbers.adds(evenBits);
        return wonBits;
    }

    public int duel(int one, int other, int n) {
        if (!sea.isPair(one, other) || n < 1 || n > 20) {
            return NONE;
        }
        trial.becomes(sea);
        int fights = 0;
        int byFirst = 0;
        for (int i = 0; i < n; i++) {
            int winner = trial.battle(rule, taken, one, other);
            if (winner < 0) {
                break;
            }
            fights++;
            byFirst += winner == one ? 1 : 0;
            trial.dawns(1);
        }
        numbers.clears();
        numbers.adds(byFirst);
        numbers.adds(trial.sideOf(one));
        numbers.adds(trial.sideOf(other));
        return fights;
    }

    public int tempts(int side) {
        if (!isSide(side)) {
            return NONE;
        }
        for (int n = 1; n <= FLAG; n++) {
            for (int ship = 0; ship < sea.size; ship++) {
                if (isTempted(ship, side, n)) {
                    numbers.clears();
                    numbers.adds(ship);
                    return n;
                }
            }
        }
        return FIRST_REASON;
    }

    public int wins(int one, int other) {
        trial.becomes(sea);
        int winner = trial.battle(rule, taken, one, other);
        if (winner >= 0) {
            numbers.clears();
            numbers.adds(trial.sideOf(one));
            numbers.adds(trial.sideOf(other));
        }
        return winner;
    }

    public int suits(int ship, int side) {
        if (!sea.has(ship) || !isSide(side)) {
            return NONE;
        }
        int best = FIRST_REASON;
        int most = NONE;
        for (int other = 0; other < sea.size; other++) {
            trial.becomes(sea);
            if (trial.battle(rule, taken, ship, other) >= 0 && trial.parts(ship, side) > most) {
                best = other;
                most = trial.parts(ship, side);
            }
        }
        if (best >= 0) {
            numbers.clears();
            numbers.adds(most);
        }
        return best;
    }

    public int goesOver(int ship, int side) {
        if (!sea.has(ship) || !isSide(side)) {
            return NONE;
        }
        search.aims(rule, taken, ship, side);
        return tellsFights(search.fewest(sea));
    }

    public int peace() {
        search.aims(rule, taken, NONE, NONE);
        return tellsFights(search.fewest(sea));
    }

    public int campaign(int n) {
        if (n < 0 || n > 40) {
            return NONE;
        }
        trial.becomes(sea);
        for (int i = 0; i < n; i++) {
            firstPairFights();
            trial.dawns(1);
        }
        numbers.clears();
        for (int ship = 0; ship < trial.size; ship++) {
            numbers.adds(trial.sideOf(ship));
        }
        return trial.overs - sea.overs;
    }

    // ---- sums

    public int halves(int side) {
        if (!isSide(side)) {
            return NONE;
        }
        int fewest = FIRST_REASON;
        for (int bits = 1; bits < 1 << sea.size; bits++) {
            int ships = Integer.bitCount(bits);
            boolean fewer = fewest == FIRST_REASON || ships < fewest;
            if (fewer && 2 * sea.partsOfSome(bits, side) == FLAG * ships) {
                fewest = ships;
                numbers.clears();
                numbers.adds(bits);
            }
        }
        return fewest;
    }

    public int evens() {
        int all = sea.strengthOfAll();
        int best = 0;
        int least = all;
        for (int bits = 0; bits < 1 << sea.size; bits += 2) {
            int difference = Math.abs(all - 2 * sea.strengthOfSome(bits));
            if (difference < least) {
                least = difference;
                best = bits;
            }
        }
        numbers.clears();
        numbers.adds(best);
        return least;
    }

    public int worth(int ship) {
        if (!sea.has(ship)) {
            return NONE;
        }
        int all = sea.strengthOfAll();
        int orders = 0;
        for (int bits = 0; bits < 1 << sea.size; bits++) {
            if ((bits & 1 << ship) != 0) {
                continue;
            }
            int came = sea.strengthOfSome(bits);
            if (2 * came <= all && 2 * (came + sea.strengthOf(ship)) > all) {
                int before = Integer.bitCount(bits);
                orders += factorial(before) * factorial(sea.size - 1 - before);
            }
        }
        numbers.clears();
        numbers.addsFraction(orders, factorial(sea.size));
        return 0;
    }

    public int patched(int side, int k) {
        if (!isSide(side) || k < 0 || k > FLAG) {
            return NONE;
        }
        int bits = 0;
        int most = 0;
        for (int ship = 0; ship < sea.size; ship++) {
            int parts = sea.parts(ship, side);
            bits |= parts >= k ? 1 << ship : 0;
            most = Math.max(most, parts);
        }
        numbers.clears();
        numbers.adds(Integer.bitCount(bits));
        numbers.adds(most);
        return bits;
    }

    // ---- which it was

    public int seen(int what, int v) {
        if (v < 0 || v > mostSeen(what)) {
            return NONE;
        }
        return sights.adds(what, v, 0) ? sights.size : NONE;
    }

    public int forget() {
        return sights.empties();
    }

    public int fits() {
        int bits = fittingShips();
        numbers.clears();
        numbers.adds(Integer.bitCount(bits));
        return bits;
    }

    public int looks() {
        int fitting = fittingShips();
        if (fitting == 0) {
            return FIRST_REASON;
        }
        int all = Integer.bitCount(fitting);
        int best = 0;
        int least = MOST_SHIPS + 1;
        for (int side = 0; side < SIDES; side++) {
            int have = Integer.bitCount(fitting & shipsWith(side));
            int left = Math.max(have, all - have);
            if (left < least) {
                least = left;
                best = side;
            }
        }
        numbers.clears();
        numbers.adds(least);
        return best;
    }

    // ---- a law of going over

    public int told(int o, int e, int is) {
        if (o < 0 || o > FLAG || e < 0 || e > FLAG - o || is < 0 || is > 1) {
            return NONE;
        }
        return tales.adds(o, e, is) ? tales.size : NONE;
    }

    public int deny() {
        return tales.empties();
    }

    public int laws() {
        int fitting = lawful.weighs(tales);
        numbers.clears();
        if (fitting > 0) {
            numbers.adds(lawful.least / Laws.STEPS);
            numbers.adds(lawful.least % Laws.STEPS);
        }
        return fitting;
    }

    public int asks() {
        int fitting = lawful.weighs(tales);
        if (fitting == 0) {
            return FIRST_REASON;
        }
        int best = 0;
        int least = fitting + 1;
        for (int own = 0; own <= FLAG; own++) {
            for (int other = 0; other <= FLAG - own; other++) {
                int overs = lawful.numberOver(own, other);
                int left = Math.max(overs, fitting - overs);
                if (left < least) {
                    least = left;
                    best = 13 * own + other;
                }
            }
        }
        numbers.clears();
        numbers.adds(least);
        return best;
    }

    // ---- treaties, chances

    public int treaty(int a, int b) {
        if (a < 0 || a > MOST_CLAUSES || b < 0 || b > MOST_CLAUSES) {
            return NONE;
        }
        numbers.clears();
        if (isCold(a, b)) {
            return 0;
        }
        for (int first = 0; first <= a; first++) {
            for (int second = 0; second <= b; second++) {
                boolean move = first == 0 || second == 0 || first == second;
                if (move && isCold(a - first, b - second)) {
                    numbers.adds(first);
                    numbers.adds(second);
                    return 1;
                }
            }
        }
        return 0;
    }

    public int series(int k, int m, int p) {
        if (k < 1 || k > 8 || m < 1 || m > 8 || p < 0 || p > 10) {
            return NONE;
        }
        // The second one has won i times when the first one wins for the k-th time.
        long ways = 1;
        long upper = 0;
        for (int i = 0; i < m; i++) {
            if (i > 0) {
                ways = ways * (k - 1 + i) / i;
            }
            upper += ways * power(p, k) * power(10 - p, i) * power(10, m - 1 - i);
        }
        numbers.clears();
        numbers.addsFraction(upper, power(10, k + m - 1));
        return 0;
    }

    // ---- rests, rules, years

    public int rests(int v) {
        if (v < 0 || v > 20) {
            return NONE;
        }
        numbers.clears();
        int pairs = 0;
        for (int x = 0; x <= MOST_YARDS; x++) {
            for (int y = 0; y <= MOST_YARDS; y++) {
                if (!isContent(v, x, y) || !isContent(v, y, x)) {
                    continue;
                }
                if (pairs == 0) {
                    numbers.adds(x);
                    numbers.adds(y);
                }
                pairs++;
            }
        }
        return pairs;
    }

    public int law() {
        int fault = readsOtherRule();
        if (fault != NONE) {
            return LAW_FAULT - fault;
        }
        int byOther = lesserWins(otherRule);
        int byRule = lesserWins(rule);
        numbers.clears();
        numbers.adds(byOther);
        numbers.adds(byRule);
        return byOther - byRule;
    }

    public int years(int seed, int n) {
        if (n < 1 || n > 60) {
            return NONE;
        }
        drawn = seed;
        trial.becomes(sea);
        for (int i = 0; i < n; i++) {
            yearGoesBy();
        }
        numbers.clears();
        numbers.adds(trial.strengthOfAll());
        numbers.adds(trial.wonOfAll());
        return trial.overs - sea.overs;
    }

    // ---- kept

    public boolean keep(int i) {
        if (i < 0 || i >= KEPT) {
            return false;
        }
        keptUnder(i).becomes(sea);
        keptBits |= 1 << i;
        return true;
    }

    public boolean again(int i) {
        if (i < 0 || i >= KEPT || (keptBits & 1 << i) == 0) {
            return false;
        }
        sea.becomes(keptUnder(i));
        past.clears();
        return true;
    }

    public int count(int what) {
        switch (what) {
            case 0: return sea.size;
            case 1: return taken;
            case 2: return sea.day;
            case 3: return sea.overs;
            case 4: return sea.strengthOfAll();
            case 5: return sea.wonOfAll();
            case 6: return sea.lostOfAll();
            case 7: return sights.size;
            case 8: return tales.size;
            case 9: return past.size;
            case 10: return numbers.size;
            case 11: return text.length;
            case 12: return strangePartsOfAll();
            case 13: return wholeShips();
            default: return NONE;
        }
    }

    public long row(int i) throws NoSuchElementException {
        if (!numbers.has(i)) {
            throw new NoSuchElementException("no such number of the row");
        }
        return numbers.at(i);
    }

    // ---- how texts are read

    private int faultOfShips(int length) {
        int end = Math.min(length, SHIPS_SIGNS);
        for (int p = 0; p < end; p++) {
            if (!standsInShips(p)) {
                return p;
            }
        }
        if (end > 0 && end % 3 != 2) {
            return end;
        }
        return length > SHIPS_SIGNS ? SHIPS_SIGNS : NONE;
    }

    private boolean standsInShips(int p) {
        char sign = text.at(p);
        switch (p % 3) {
            case 0: return isSideSign(sign) && sea.size + p / 3 < MOST_SHIPS;
            case 1: return isDigit(sign) && sign != '0';
            default: return sign == ';';
        }
    }

    /** Reads THE TEXT as the other rule: NONE, or the place of the sign that can't stand there. */
    private int readsOtherRule() {
        int length = text.empties();
        if (length == 0) {
            return otherRule.reads(PLAIN_RULE, PLAIN_RULE.length);
        }
        return otherRule.reads(text.signs, length);
    }

    private int faultOfWar(int length) {
        int end = Math.min(length, WAR_SIGNS);
        int begin = 0;
        for (int p = 0; p < end; p++) {
            if (p - begin == lengthOfAct(text.at(begin))) {
                begin = p;
            }
            if (!standsInAct(text.at(begin), p - begin, text.at(p))) {
                return p;
            }
        }
        if (end > 0 && end - begin != lengthOfAct(text.at(begin))) {
            return end;
        }
        return length > WAR_SIGNS ? WAR_SIGNS : NONE;
    }

    /** Whether a sign can stand at a place of an act that begins with a kind. */
    private static boolean standsInAct(char kind, int place, char sign) {
        if (place == 0) {
            return kind == 'f' || kind == 'n' || kind == 's' || kind == 'y';
        }
        if (place == 2 && kind != 'f') {
            return isSideSign(sign);
        }
        return isDigit(sign) && (place != 3 || sign != '0');
    }

    private static int lengthOfAct(char kind) {
        switch (kind) {
            case 'n': return 2;
            case 's': return 4;
            default: return 3;
        }
    }

    /** Does the act that begins at p: whether it could be done. */
    private boolean acts(int p) {
        int first = text.at(p + 1) - '0';
        switch (text.at(p)) {
            case 'f':
                int winner = sea.battle(rule, taken, first, text.at(p + 2) - '0');
                return winner >= 0 || winner == SECOND_REASON;
            case 'n':
                sea.dawns(first);
                return true;
            case 's':
                return sea.sewsIn(first, text.at(p + 2) - 'a', text.at(p + 3) - '0') >= 0;
            default:
                return sea.strikesAll(first, text.at(p + 2) - 'a') >= 0;
        }
    }

    private static boolean isDigit(char sign) {
        return sign >= '0' && sign <= '9';
    }

    private static boolean isSideSign(char sign) {
        return sign >= 'a' && sign <= 'd';
    }

    private static boolean isSide(int side) {
        return side >= 0 && side < SIDES;
    }

    // ---- what the calls share

    /** An entry of a sheet, as bytes, shorts or ints hold it. */
    private static int entry(int kind, int value) {
        switch (kind) {
            case 0: return (byte) value;
            case 1: return (short) value;
            default: return value;
        }
    }

    private Sea keptUnder(int i) {
        return i == 0 ? keptFirst : keptSecond;
    }

    private boolean isTempted(int ship, int side, int n) {
        if (sea.sideOf(ship) == side || sea.parts(ship, sea.sideOf(ship)) < n) {
            return false;
        }
        trial.becomes(sea);
        return trial.sewsIn(ship, side, n) == side;
    }

    /** Tells the fights of the search, if it found some. */
    private int tellsFights(int fights) {
        if (fights >= 0) {
            numbers.clears();
            for (int i = 0; i < 2 * fights; i++) {
                numbers.adds(search.step(i));
            }
        }
        return fights;
    }

    private void firstPairFights() {
        for (int one = 0; one < trial.size; one++) {
            for (int other = one + 1; other < trial.size; other++) {
                if (trial.battle(rule, taken, one, other) >= 0) {
                    return;
                }
            }
        }
    }

    private int lesserWins(Rule by) {
        int pairs = 0;
        for (int one = 0; one < sea.size; one++) {
            for (int other = one + 1; other < sea.size; other++) {
                pairs += sea.winner(by, one, other) == one ? 1 : 0;
            }
        }
        return pairs;
    }

    private void yearGoesBy() {
        int what = draws(SIDES);
        if (what == 0) {
            trial.dawns(1);
        } else if (trial.size > 0) {
            int one = draws(trial.size);
            if (what == 3) {
                trial.sewsIn(one, draws(SIDES), 1);
            } else {
                trial.battle(rule, taken, one, draws(trial.size));
            }
        }
    }

    private int draws(int n) {
        drawn = drawn * 1103515245 + 12345;
        return n > 0 ? (drawn >>> 16) % n : 0;
    }

    private int strangePartsOfAll() {
        int sum = 0;
        for (int ship = 0; ship < sea.size; ship++) {
            sum += sea.strangeParts(ship);
        }
        return sum;
    }

    private int wholeShips() {
        int bits = 0;
        for (int ship = 0; ship < sea.size; ship++) {
            bits |= sea.strangeParts(ship) == 0 ? 1 << ship : 0;
        }
        return bits;
    }

    private int shipsWith(int side) {
        int bits = 0;
        for (int ship = 0; ship < sea.size; ship++) {
            bits |= sea.parts(ship, side) > 0 ? 1 << ship : 0;
        }
        return bits;
    }

    /** The greatest number that can be seen of a kind; NONE, if there is no such kind. */
    private static int mostSeen(int what) {
        switch (what) {
            case 0: return SIDES - 1;
            case 1: return 9;
            case 2: return SIDES - 1;
            case 3: return MOST_WON;
            case 4: return 1;
            default: return NONE;
        }
    }

    private int fittingShips() {
        int bits = 0;
        for (int ship = 0; ship < sea.size; ship++) {
            bits |= fitsAll(ship) ? 1 << ship : 0;
        }
        return bits;
    }

    private boolean fitsAll(int ship) {
        for (int i = 0; i < sights.size; i++) {
            if (!fitsSight(ship, sights.firstOf(i), sights.secondOf(i))) {
                return false;
            }
        }
        return true;
    }

    private boolean fitsSight(int ship, int what, int v) {
        switch (what) {
            case 0: return sea.sideOf(ship) == v;
            case 1: return sea.strengthOf(ship) >= v;
            case 2: return sea.parts(ship, v) > 0;
            case 3: return sea.wonOf(ship) >= v;
            default: return sea.lostOf(ship) > 0 == (v == 1);
        }
    }

    private static boolean isCold(int a, int b) {
        return a >= 0 && a < COLD.length && COLD[a] == b;
    }

    /** Whether the one who hoists x yards against y would not have more by another number. */
    private static boolean isContent(int v, int x, int y) {
        int has = gain(v, x, y);
        for (int other = 0; other <= MOST_YARDS; other++) {
            if (gain(v, other, y) > has) {
                return false;
            }
        }
        return true;
    }

    private static int gain(int v, int x, int y) {
        int salute = x > y ? v : x == y ? v / 2 : 0;
        return salute - x - (x - y >= 3 ? 2 : 0);
    }

    private static int factorial(int n) {
        return n >= 0 && n < FACTORIALS.length ? FACTORIALS[n] : 0;
    }

    private static long power(int base, int exponent) {
        long product = 1;
        for (int i = 0; i < exponent; i++) {
            product *= base;
        }
        return product;
    }

    /** The signs that were told and not yet read. */
    private static final class Text {
        private final char[] signs = new char[MOST_SIGNS];
        private int length;

        private void add(char sign) {
            if (length >= 0 && length < signs.length) {
                signs[length] = sign;
                length++;
            }
        }

        private char at(int p) {
            return p >= 0 && p < signs.length ? signs[p] : 0;
        }

        /** Empties it: how many signs it had; at() still tells them. */
        private int empties() {
            int had = length;
            length = 0;
            return had;
        }
    }

    /** The ROW: numbers that a call told last. */
    private static final class Row {
        private final long[] told = new long[8];
        private int size;

        private void clears() {
            size = 0;
        }

        private void adds(long number) {
            if (size >= 0 && size < told.length) {
                told[size] = number;
                size++;
            }
        }

        private void addsFraction(long upper, long lower) {
            long divisor = commonDivisor(upper, lower);
            if (divisor != 0) {
                adds(upper / divisor);
                adds(lower / divisor);
            }
        }

        private static long commonDivisor(long a, long b) {
            long greater = a;
            long lesser = b;
            // Euclid takes at most some ninety steps for longs.
            for (int i = 0; i < 200 && lesser != 0; i++) {
                long rest = greater % lesser;
                greater = lesser;
                lesser = rest;
            }
            return greater;
        }

        private boolean has(int i) {
            return i >= 0 && i < size && i < told.length;
        }

        private long at(int i) {
            return has(i) ? told[i] : 0;
        }
    }

    /** Ships and days: all that undo() brings back, with MIGHT beside it. */
    private static final class Sea {
        private int size;
        private int day;
        private int overs;
        private final int[] might = new int[MOST_SHIPS];
        private final int[] strength = new int[MOST_SHIPS];
        private final int[] side = new int[MOST_SHIPS];
        private final int[] won = new int[MOST_SHIPS];
        private final int[] lost = new int[MOST_SHIPS];
        private final int[] flags = new int[MOST_SHIPS * SIDES];

        private void becomes(Sea other) {
            size = other.size;
            day = other.day;
            overs = other.overs;
            System.arraycopy(other.might, 0, might, 0, MOST_SHIPS);
            System.arraycopy(other.strength, 0, strength, 0, MOST_SHIPS);
            System.arraycopy(other.side, 0, side, 0, MOST_SHIPS);
            System.arraycopy(other.won, 0, won, 0, MOST_SHIPS);
            System.arraycopy(other.lost, 0, lost, 0, MOST_SHIPS);
            System.arraycopy(other.flags, 0, flags, 0, MOST_SHIPS * SIDES);
        }

        private boolean has(int ship) {
            return ship >= 0 && ship < size && ship < MOST_SHIPS;
        }

        private boolean isPair(int one, int other) {
            return has(one) && has(other) && one != other;
        }

        private int mightOf(int ship) {
            return has(ship) ? might[ship] : 0;
        }

        private int strengthOf(int ship) {
            return has(ship) ? strength[ship] : 0;
        }

        private int sideOf(int ship) {
            return has(ship) ? side[ship] : NONE;
        }

        private int wonOf(int ship) {
            return has(ship) ? won[ship] : 0;
        }

        private int lostOf(int ship) {
            return has(ship) ? lost[ship] : 0;
        }

        private int parts(int ship, int of) {
            return has(ship) && isSide(of) ? flags[ship * SIDES + of] : 0;
        }

        private int strangeParts(int ship) {
            return FLAG - parts(ship, sideOf(ship));
        }

        private int strengthOfAll() {
            return strengthOfSome((1 << MOST_SHIPS) - 1);
        }

        private int strengthOfSome(int bits) {
            int sum = 0;
            for (int ship = 0; ship < size; ship++) {
                sum += (bits & 1 << ship) != 0 ? strengthOf(ship) : 0;
            }
            return sum;
        }

        private int partsOfAll(int of) {
            return partsOfSome((1 << MOST_SHIPS) - 1, of);
        }

        private int partsOfSome(int bits, int of) {
            int sum = 0;
            for (int ship = 0; ship < size; ship++) {
                sum += (bits & 1 << ship) != 0 ? parts(ship, of) : 0;
            }
            return sum;
        }

        private int wonOfAll() {
            int sum = 0;
            for (int ship = 0; ship < size; ship++) {
                sum += wonOf(ship);
            }
            return sum;
        }

        private int lostOfAll() {
            int sum = 0;
            for (int ship = 0; ship < size; ship++) {
                sum += lostOf(ship);
            }
            return sum;
        }

        private int difference(int one, int other) {
            int sum = 0;
            for (int of = 0; of < SIDES; of++) {
                sum += Math.abs(parts(one, of) - parts(other, of));
            }
            return sum;
        }

        private void joins(int of, int mightThen) {
            int ship = size;
            if (ship < 0 || ship >= MOST_SHIPS || !isSide(of)) {
                return;
            }
            size++;
            might[ship] = mightThen;
            strength[ship] = mightThen;
            won[ship] = 0;
            lost[ship] = 0;
            hoists(ship, of);
        }

        /** All parts of her flag are of a side, and so is she. */
        private void hoists(int ship, int of) {
            if (!has(ship) || !isSide(of)) {
                return;
            }
            for (int each = 0; each < SIDES; each++) {
                flags[ship * SIDES + each] = each == of ? FLAG : 0;
            }
            side[ship] = of;
        }

        private void strengthens(int ship, int value) {
            if (has(ship)) {
                strength[ship] = Math.max(0, Math.min(might[ship], value));
            }
        }

        private void resews(int ship, int from, int to, int n) {
            if (has(ship) && isSide(from) && isSide(to)) {
                flags[ship * SIDES + from] -= n;
                flags[ship * SIDES + to] += n;
            }
        }

        private void mayGoOver(int ship) {
            int most = 0;
            for (int of = 1; of < SIDES; of++) {
                most = parts(ship, of) > parts(ship, most) ? of : most;
            }
            if (has(ship) && parts(ship, most) > parts(ship, sideOf(ship))) {
                side[ship] = most;
                overs = Math.min(overs + 1, MOST_OVERS);
            }
        }

        /** The ship that would win, or what fight() answers without one. */
        private int winner(Rule rule, int one, int other) {
            if (!isPair(one, other)) {
                return NONE;
            }
            if (sideOf(one) == sideOf(other)) {
                return FIRST_REASON;
            }
            int force = rule.measures(this, one, other);
            int against = rule.measures(this, other, one);
            return force == against ? SECOND_REASON : force > against ? one : other;
        }

        private int battle(Rule rule, int take, int one, int other) {
            int winner = winner(rule, one, other);
            if (winner >= 0) {
                strikesTo(winner, winner == one ? other : one, take);
            }
            return winner;
        }

        private void strikesTo(int winner, int loser, int take) {
            if (!isPair(winner, loser)) {
                return;
            }
            int own = sideOf(winner);
            resews(winner, own, sideOf(loser), Math.min(take, parts(winner, own)));
            won[winner] = Math.min(won[winner] + 1, MOST_WON);
            strength[loser] = Math.max(strength[loser] - 1, 0);
            lost[loser] = Math.min(lost[loser] + 1, MOST_WON);
            mayGoOver(winner);
            mayGoOver(loser);
        }

        private void dawns(int days) {
            for (int i = 0; i < days; i++) {
                for (int ship = 0; ship < size; ship++) {
                    strengthens(ship, strengthOf(ship) + 1);
                    mendsFlag(ship);
                }
                day++;
            }
        }

        private void mendsFlag(int ship) {
            int fewest = NONE;
            for (int of = 0; of < SIDES; of++) {
                boolean strange = of != sideOf(ship) && parts(ship, of) > 0;
                if (strange && (fewest == NONE || parts(ship, of) < parts(ship, fewest))) {
                    fewest = of;
                }
            }
            if (fewest != NONE) {
                resews(ship, fewest, sideOf(ship), 1);
            }
        }

        /** As sews(). */
        private int sewsIn(int ship, int of, int n) {
            if (!has(ship) || !isSide(of) || n < 1 || n > FLAG) {
                return NONE;
            }
            if (parts(ship, sideOf(ship)) < n) {
                return FIRST_REASON;
            }
            if (sideOf(ship) == of) {
                return SECOND_REASON;
            }
            resews(ship, sideOf(ship), of, n);
            mayGoOver(ship);
            return sideOf(ship);
        }

        /** As yields(). */
        private int strikesAll(int ship, int of) {
            if (!has(ship) || !isSide(of)) {
                return NONE;
            }
            int others = FLAG - parts(ship, of);
            if (others == 0) {
                return FIRST_REASON;
            }
            hoists(ship, of);
            return others;
        }
    }

    /** What can be undone: the latest ones, in a ring. */
    private static final class Past {
        private final Sea[] seas = new Sea[MOST_UNDONE];
        private int first;
        private int size;

        private Past() {
            for (int i = 0; i < MOST_UNDONE; i++) {
                seas[i] = new Sea();
            }
        }

        private void clears() {
            size = 0;
        }

        private Sea at(int i) {
            int place = Math.floorMod(first + i, MOST_UNDONE);
            return place < seas.length ? seas[place] : null;
        }

        private void adds(Sea sea) {
            if (size == MOST_UNDONE) {
                first = (first + 1) % MOST_UNDONE;
                size--;
            }
            Sea place = at(size);
            if (place != null) {
                place.becomes(sea);
                size++;
            }
        }

        /** Puts the latest one back into a sea: whether there was one. */
        private boolean returns(Sea sea) {
            Sea latest = size > 0 ? at(size - 1) : null;
            if (latest == null) {
                return false;
            }
            sea.becomes(latest);
            size--;
            return true;
        }
    }

    /** What was seen or told, three numbers each. */
    private static final class Notes {
        private final int[] first = new int[MOST_NOTED];
        private final int[] second = new int[MOST_NOTED];
        private final int[] third = new int[MOST_NOTED];
        private int size;

        private boolean adds(int a, int b, int c) {
            if (size < 0 || size >= MOST_NOTED) {
                return false;
            }
            first[size] = a;
            second[size] = b;
            third[size] = c;
            size++;
            return true;
        }

        private int empties() {
            int had = size;
            size = 0;
            return had;
        }

        private int firstOf(int i) {
            return i >= 0 && i < MOST_NOTED ? first[i] : NONE;
        }

        private int secondOf(int i) {
            return i >= 0 && i < MOST_NOTED ? second[i] : NONE;
        }

        private int thirdOf(int i) {
            return i >= 0 && i < MOST_NOTED ? third[i] : NONE;
        }
    }

    /** The laws of going over that fit what was told; a law is 13 times t, and d. */
    private static final class Laws {
        private static final int STEPS = 13;
        private static final int ALL = STEPS * STEPS;

        private final boolean[] fitting = new boolean[ALL];
        private int least;

        /** Finds the laws that fit, and the least of them: how many. */
        private int weighs(Notes tales) {
            int number = 0;
            for (int each = ALL - 1; each >= 0; each--) {
                fitting[each] = fitsTales(each, tales);
                if (fitting[each]) {
                    number++;
                    least = each;
                }
            }
            return number;
        }

        private static boolean fitsTales(int each, Notes tales) {
            for (int i = 0; i < tales.size; i++) {
                if (isOver(each, tales.firstOf(i), tales.secondOf(i)) != (tales.thirdOf(i) == 1)) {
                    return false;
                }
            }
            return true;
        }

        /** By how many of the laws that fit a ship goes over. */
        private int numberOver(int own, int other) {
            int number = 0;
            for (int each = 0; each < ALL; each++) {
                number += fitting[each] && isOver(each, own, other) ? 1 : 0;
            }
            return number;
        }

        private static boolean isOver(int each, int own, int other) {
            return own < each / STEPS || other - own >= each % STEPS;
        }
    }

    /** The fewest fights by which one ship is of a side, or (without a ship) all are of one side. */
    private static final class Search {
        private final Sea[] levels = new Sea[MOST_FIGHTS + 1];
        private final int[] steps = new int[2 * MOST_FIGHTS];
        private Rule rule;
        private int take;
        private int ship;
        private int side;

        private Search() {
            for (int i = 0; i <= MOST_FIGHTS; i++) {
                levels[i] = new Sea();
            }
        }

        private void aims(Rule byRule, int byTake, int ofShip, int ofSide) {
            rule = byRule;
            take = byTake;
            ship = ofShip;
            side = ofSide;
        }

        private int step(int i) {
            return i >= 0 && i < steps.length ? steps[i] : NONE;
        }

        private Sea level(int depth) {
            return depth >= 0 && depth < levels.length ? levels[depth] : null;
        }

        private int fewest(Sea from) {
            Sea start = level(0);
            if (start == null || rule == null) {
                return FIRST_REASON;
            }
            start.becomes(from);
            for (int fights = 0; fights <= MOST_FIGHTS; fights++) {
                if (reaches(0, fights)) {
                    return fights;
                }
            }
            return FIRST_REASON;
        }

        /** Tries pairs in their order, so that the first way found is the least row. */
        private boolean reaches(int depth, int fights) {
            Sea here = level(depth);
            if (here == null || depth >= fights) {
                return here != null && isReached(here);
            }
            if (isTooFar(here, fights - depth)) {
                return false;
            }
            for (int one = 0; one < here.size; one++) {
                for (int other = one + 1; other < here.size; other++) {
                    if (!isOfUse(one, other, fights - depth)) {
                        continue;
                    }
                    int winner = here.winner(rule, one, other);
                    if (winner >= 0 && goes(depth, winner, winner == one ? other : one)
                            && reaches(depth + 1, fights)) {
                        return true;
                    }
                }
            }
            return false;
        }

        private boolean isReached(Sea here) {
            return ship == NONE ? here.size == mostOfOneSide(here) : here.sideOf(ship) == side;
        }

        /**
         * A fight changes no flag but the winner's, so it brings one ship over at most; and of her flag it takes some
         * parts at most, of which each is one less of her side and one more of the other at best.
         */
        private boolean isTooFar(Sea here, int left) {
            if (ship == NONE) {
                return here.size - mostOfOneSide(here) > left;
            }
            return here.parts(ship, side) + 2 * left * take < here.parts(ship, here.sideOf(ship));
        }

        /** By the last fight she goes over, so she is one of the two. */
        private boolean isOfUse(int one, int other, int left) {
            return ship == NONE || left > 1 || one == ship || other == ship;
        }

        /** A fight that is won leads to the next level: whether there is one. */
        private boolean goes(int depth, int winner, int loser) {
            Sea here = level(depth);
            Sea next = level(depth + 1);
            if (here == null || next == null || depth < 0 || 2 * depth + 1 >= steps.length) {
                return false;
            }
            next.becomes(here);
            next.strikesTo(winner, loser, take);
            steps[2 * depth] = Math.min(winner, loser);
            steps[2 * depth + 1] = Math.max(winner, loser);
            return true;
        }

        private static int mostOfOneSide(Sea here) {
            int most = 0;
            for (int of = 0; of < SIDES; of++) {
                int ships = 0;
                for (int each = 0; each < here.size; each++) {
                    ships += here.sideOf(each) == of ? 1 : 0;
                }
                most = Math.max(most, ships);
            }
            return most;
        }
    }

    /** A rule of force, kept as its things and signs with each sign behind what it joins. */
    private static final class Rule {
        /** Codes below it are numbers, the others this and a sign. */
        private static final int SIGN = 1000;
        private static final char NEGATE = '~';

        private final int[] code = new int[RULE_SIGNS];
        private final char[] waiting = new char[RULE_SIGNS];
        private final int[] values = new int[RULE_SIGNS];
        private int size;
        private int waits;
        private int depth;
        private int compared;
        private int digits;
        private boolean open;

        /** Reads an expression: NONE, or the place of the sign that can't stand there. */
        private int reads(char[] signs, int length) {
            size = 0;
            waits = 0;
            depth = 0;
            compared = 0;
            digits = 0;
            open = true;
            int end = Math.min(length, RULE_SIGNS);
            for (int p = 0; p < end && p < signs.length; p++) {
                if (!(open ? beginsThing(signs[p]) : comesBehind(signs[p]))) {
                    return p;
                }
            }
            if (open || depth > 0) {
                return end;
            }
            if (length > RULE_SIGNS) {
                return RULE_SIGNS;
            }
            joins(1);
            return NONE;
        }

        private boolean beginsThing(char sign) {
            if (isDigit(sign)) {
                emits(sign - '0');
                digits = 1;
                open = false;
                return true;
            }
            if (isLetter(sign)) {
                emits(SIGN + sign);
                digits = 0;
                open = false;
                return true;
            }
            if (sign == '-') {
                puts(NEGATE);
                return true;
            }
            if (sign != '(' || depth >= MOST_BRACKETS) {
                return false;
            }
            puts(sign);
            depth++;
            compared &= ~(1 << depth);
            return true;
        }

        private boolean comesBehind(char sign) {
            if (isDigit(sign)) {
                return lengthens(sign - '0');
            }
            if (sign == ')') {
                return closes();
            }
            int binding = binding(sign);
            if (binding == 0 || sign == NEGATE) {
                return false;
            }
            if (binding == 1) {
                if ((compared & 1 << depth) != 0) {
                    return false;
                }
                compared |= 1 << depth;
            }
            joins(binding);
            puts(sign);
            open = true;
            return true;
        }

        /** One more digit of the number that was read last. */
        private boolean lengthens(int digit) {
            if (digits < 1 || digits > 2 || size < 1 || size > code.length) {
                return false;
            }
            code[size - 1] = code[size - 1] * 10 + digit;
            digits++;
            return true;
        }

        private boolean closes() {
            if (depth == 0) {
                return false;
            }
            joins(1);
            if (waits > 0) {
                waits--;
            }
            depth--;
            digits = 0;
            return true;
        }

        private static boolean isLetter(char sign) {
            return sign == 's' || sign == 'o' || sign == 'e' || sign == 'w' || sign == 'l' || sign == 'n';
        }

        /** How strongly a sign binds; 0: it stops those behind it, or is no such sign. */
        private static int binding(char sign) {
            switch (sign) {
                case '<': return 1;
                case '>': return 1;
                case '=': return 1;
                case '+': return 2;
                case '-': return 2;
                case '*': return 3;
                case '/': return 3;
                case NEGATE: return 4;
                default: return 0;
            }
        }

        private void emits(int piece) {
            if (size >= 0 && size < code.length) {
                code[size] = piece;
                size++;
            }
        }

        private void puts(char sign) {
            if (waits >= 0 && waits < waiting.length) {
                waiting[waits] = sign;
                waits++;
            }
        }

        /** Signs that wait and bind as strongly, or more, have all that they join. */
        private void joins(int binding) {
            for (int i = waits - 1; i >= 0 && i < waiting.length && binding(waiting[i]) >= binding; i--) {
                emits(SIGN + waiting[i]);
                waits = i;
            }
        }

        /** FORCE of a ship against another one. */
        private int measures(Sea sea, int one, int other) {
            int top = 0;
            for (int i = 0; i < size && i < code.length; i++) {
                int piece = code[i];
                if (piece < SIGN) {
                    top = stacks(top, piece);
                } else if (isLetter((char) (piece - SIGN))) {
                    top = stacks(top, thing(piece - SIGN, sea, one, other));
                } else {
                    top = reduces(top, piece - SIGN);
                }
            }
            return values[0];
        }

        private int stacks(int top, int value) {
            if (top < 0 || top >= values.length) {
                return top;
            }
            values[top] = value;
            return top + 1;
        }

        private int reduces(int top, int sign) {
            if (top < 1 || top > values.length) {
                return top;
            }
            if (sign == NEGATE) {
                values[top - 1] = -values[top - 1];
                return top;
            }
            if (top < 2) {
                return top;
            }
            values[top - 2] = joined(sign, values[top - 2], values[top - 1]);
            return top - 1;
        }

        private static int joined(int sign, int a, int b) {
            switch (sign) {
                case '<': return a < b ? 1 : 0;
                case '>': return a > b ? 1 : 0;
                case '=': return a == b ? 1 : 0;
                case '+': return a + b;
                case '-': return a - b;
                case '*': return a * b;
                default: return b == 0 ? 0 : a / b;
            }
        }

        private static int thing(int letter, Sea sea, int one, int other) {
            switch (letter) {
                case 's': return sea.strengthOf(one);
                case 'o': return sea.parts(one, sea.sideOf(one));
                case 'e': return sea.parts(one, sea.sideOf(other));
                case 'w': return sea.wonOf(one);
                case 'l': return sea.lostOf(one);
                default: return sea.day % 7;
            }
        }
    }
}
