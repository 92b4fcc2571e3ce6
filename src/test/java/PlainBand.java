import java.math.BigInteger;
import java.util.ArrayList;
import java.util.Comparator;
import java.util.List;
import java.util.TreeMap;
import java.util.regex.Matcher;
import java.util.regex.Pattern;

/**
 * The document once more, in another form and with the Java library, for ModelTest to
 * compare with: lists and maps where DumplingBand has bits, search where it counts.
 */
final class PlainBand {
    private static final int UNKNOWN = -1, BAD = -2, LATE = -3, FULL = -4, NONE = -9;
    private static final Pattern PART =
        Pattern.compile("B([0-3])([1-9])([1-9])([0-3])|E([0-5])([0-5])|G([0-3])(0[1-9]|[1-4][0-9]|5[0-4])");

    private record Beast(int kind, int price, int strength, int skill) { }

    private record Gate(int skill, int strength) { }

    private static final class Road {
        int dumplings;
        final List<Beast> beasts = new ArrayList<>();
        final List<Gate> gates = new ArrayList<>();
        final List<int[]> enemies = new ArrayList<>();

        boolean hates(int one, int other) {
            for (int[] pair : enemies) {
                if (pair[0] == one && pair[1] == other || pair[0] == other && pair[1] == one) {
                    return true;
                }
            }
            return false;
        }
    }

    /** One of THE BAND: who, what it was given, when it came. */
    private record Member(int given, int came) { }

    private final class State {
        int pouch, day, next, opened, comings;
        TreeMap<Integer, Member> band = new TreeMap<>();

        State copy() {
            State other = new State();
            other.pouch = pouch;
            other.day = day;
            other.next = next;
            other.opened = opened;
            other.comings = comings;
            other.band = new TreeMap<>(band);
            return other;
        }

        int asks(int who) {
            Beast beast = road.beasts.get(who);
            if (beast.kind == 1) {
                return beast.price / 2 + beast.price % 2;
            }
            int ask = beast.price;
            if (beast.kind == 2) {
                for (Member member : band.values()) {
                    ask = Math.max(ask, member.given);
                }
            }
            return ask;
        }

        boolean nobodyIsNext() {
            return next >= road.beasts.size();
        }

        /** Who left, or NONE: it can not be. */
        int give() {
            if (nobodyIsNext() || asks(next) > pouch) {
                return NONE;
            }
            int who = next++;
            int ask = asks(who);
            pouch -= ask;
            band.put(who, new Member(ask, comings++));
            int left = 0;
            for (int other : new ArrayList<>(band.keySet())) {
                if (band.containsKey(who) && road.hates(who, other)) {
                    int loser = loserOf(who, other);
                    band.remove(loser);
                    left += 1 << loser;
                }
            }
            return left;
        }

        private int loserOf(int one, int other) {
            int difference = road.beasts.get(one).strength - road.beasts.get(other).strength;
            if (difference != 0) {
                return difference < 0 ? one : other;
            }
            return band.get(one).came > band.get(other).came ? one : other;
        }

        int dusk() {
            int left = 0;
            for (int who : new ArrayList<>(band.keySet())) {
                if (pouch > 0) {
                    pouch--;
                } else {
                    band.remove(who);
                    left += 1 << who;
                }
            }
            for (int who : new ArrayList<>(band.keySet())) {
                if (road.beasts.get(who).kind == 3) {
                    band.remove(who);
                    left += 1 << who;
                }
            }
            day++;
            return left;
        }

        boolean canOpen() {
            return opened < road.gates.size() && fits(new ArrayList<>(band.keySet()), road.gates.get(opened));
        }

        boolean act(int figure) {
            switch (figure) {
                case 0:
                    if (nobodyIsNext()) {
                        return false;
                    }
                    next++;
                    return true;
                case 1:
                    return give() != NONE;
                case 2:
                    dusk();
                    return true;
                case 3:
                    if (!canOpen()) {
                        return false;
                    }
                    opened++;
                    return true;
                default:
                    return false;
            }
        }

        int bits() {
            int bits = 0;
            for (int who : band.keySet()) {
                bits += 1 << who;
            }
            return bits;
        }
    }

    private record Taking(int set, int cost, int band, int gates) { }

    private StringBuilder text = new StringBuilder();
    private Road road = new Road();
    private State now = new State();
    private final List<State> acts = new ArrayList<>();
    private final State[] kept = new State[2];
    private final List<int[]> told = new ArrayList<>();
    private BigInteger seed = BigInteger.ZERO;

    int write(int letter) {
        if (letter < 0 || letter > 255) {
            return BAD;
        }
        if (text.length() == 64) {
            return FULL;
        }
        text.append((char) letter);
        return text.length();
    }

    int wipe() {
        int was = text.length();
        text = new StringBuilder();
        return was;
    }

    /** THE ROAD that a text is, or null. */
    private static Road roadOf(String text) {
        if (!text.matches("(?s)R[0-9][0-9].*")) {
            return null;
        }
        Road road = new Road();
        road.dumplings = Integer.parseInt(text.substring(1, 3));
        Matcher part = PART.matcher(text);
        int at = 3;
        while (at < text.length()) {
            part.region(at, text.length());
            if (!part.lookingAt() || !takes(road, part)) {
                return null;
            }
            at = part.end();
        }
        return road;
    }

    private static boolean takes(Road road, Matcher part) {
        if (part.group(1) != null) {
            road.beasts.add(new Beast(number(part, 1), number(part, 2), number(part, 3), number(part, 4)));
            return road.beasts.size() <= 6;
        }
        if (part.group(5) != null) {
            int one = number(part, 5);
            int other = number(part, 6);
            boolean isNew = one != other && !road.hates(one, other);
            road.enemies.add(new int[] {one, other});
            return isNew && one < road.beasts.size() && other < road.beasts.size();
        }
        road.gates.add(new Gate(number(part, 7), number(part, 8)));
        return road.gates.size() <= 3;
    }

    private static int number(Matcher part, int group) {
        return Integer.parseInt(part.group(group));
    }

    /** Whether something could come behind a text that makes it a ROAD: all of up to 4 figures are tried. */
    private static boolean canBecomeRoad(String start) {
        if (start.isEmpty() || roadOf(start) != null) {
            return true;
        }
        int tries = 1;
        for (int figures = 1; figures <= 4; figures++) {
            tries *= 6;
            for (int tried = 0; tried < tries; tried++) {
                StringBuilder whole = new StringBuilder(start);
                for (int figure = 0, rest = tried; figure < figures; figure++, rest /= 6) {
                    whole.append((char) ('0' + rest % 6));
                }
                if (roadOf(whole.toString()) != null) {
                    return true;
                }
            }
        }
        return false;
    }

    int fault() {
        String all = text.toString();
        if (roadOf(all) != null) {
            return NONE;
        }
        for (int length = 1; length <= all.length(); length++) {
            if (!canBecomeRoad(all.substring(0, length))) {
                return length - 1;
            }
        }
        return all.length();
    }

    int road() {
        Road read = roadOf(text.toString());
        if (read == null) {
            return LATE;
        }
        road = read;
        now = new State();
        now.pouch = read.dumplings;
        acts.clear();
        kept[0] = null;
        kept[1] = null;
        return read.beasts.size();
    }

    int about(int what) {
        List<Integer> band = new ArrayList<>(now.band.keySet());
        int[] answers = {road.beasts.size(), now.pouch, now.bits(), strength(band), now.day,
            now.nobodyIsNext() ? NONE : now.next, road.gates.size(), now.opened, acts.size(), told.size(),
            text.length(), skills(band)};
        return what < 0 || what >= answers.length ? BAD : answers[what];
    }

    private int strength(List<Integer> some) {
        return some.stream().mapToInt(who -> road.beasts.get(who).strength).sum();
    }

    private int skills(List<Integer> some) {
        return some.stream().mapToInt(who -> 1 << road.beasts.get(who).skill).distinct().sum();
    }

    private boolean fits(List<Integer> some, Gate gate) {
        return some.stream().anyMatch(who -> road.beasts.get(who).skill == gate.skill)
            && strength(some) >= gate.strength;
    }

    private boolean isBeast(int beast) {
        return beast >= 0 && beast < road.beasts.size();
    }

    private boolean isGate(int gate) {
        return gate >= 0 && gate < road.gates.size();
    }

    int beast(int who, int what) {
        if (!isBeast(who)) {
            return UNKNOWN;
        }
        Beast beast = road.beasts.get(who);
        int enemies = 0;
        for (int other = 0; other < road.beasts.size(); other++) {
            enemies += road.hates(who, other) ? 1 << other : 0;
        }
        Member member = now.band.get(who);
        int[] answers = {beast.kind, beast.price, beast.strength, beast.skill, enemies, now.asks(who),
            member == null ? NONE : member.given};
        return what < 0 || what >= answers.length ? BAD : answers[what];
    }

    int gate(int which, int what) {
        if (!isGate(which)) {
            return UNKNOWN;
        }
        Gate gate = road.gates.get(which);
        int[] answers = {gate.skill, gate.strength, which < now.opened ? 1 : 0};
        return what < 0 || what >= answers.length ? BAD : answers[what];
    }

    private void remember(State before) {
        acts.add(before);
        if (acts.size() > 14) {
            acts.remove(0);
        }
    }

    int give() {
        if (now.nobodyIsNext()) {
            return LATE;
        }
        State before = now.copy();
        int left = now.give();
        if (left == NONE) {
            return FULL;
        }
        remember(before);
        return left;
    }

    int pass() {
        if (now.nobodyIsNext()) {
            return LATE;
        }
        remember(now.copy());
        now.next++;
        return now.nobodyIsNext() ? NONE : now.next;
    }

    int dusk() {
        remember(now.copy());
        return now.dusk();
    }

    int open() {
        if (!now.canOpen()) {
            return LATE;
        }
        remember(now.copy());
        return now.opened++;
    }

    int undo() {
        if (acts.isEmpty()) {
            return LATE;
        }
        now = acts.remove(acts.size() - 1);
        return acts.size();
    }

    private List<Taking> takings() {
        List<Taking> takings = new ArrayList<>();
        addTakings(takings, now.copy(), 0);
        return takings;
    }

    private void addTakings(List<Taking> takings, State state, int set) {
        if (state.nobodyIsNext()) {
            State end = state.copy();
            while (end.canOpen()) {
                end.opened++;
            }
            takings.add(new Taking(set, now.pouch - end.pouch, end.bits(), end.opened));
            return;
        }
        State passed = state.copy();
        passed.next++;
        addTakings(takings, passed, set);
        State given = state.copy();
        if (given.give() != NONE) {
            addTakings(takings, given, set + (1 << state.next));
        }
    }

    int taking(int set, int what) {
        for (int bit = 0; bit < 32; bit++) {
            if ((set >>> bit & 1) == 1 && (bit < now.next || bit >= road.beasts.size())) {
                return BAD;
            }
        }
        if (what < 0 || what > 2) {
            return BAD;
        }
        for (Taking taking : takings()) {
            if (taking.set == set) {
                return new int[] {taking.cost, taking.band, taking.gates}[what];
            }
        }
        return NONE;
    }

    int cheapest(int what) {
        if (what < 0 || what > 1) {
            return BAD;
        }
        return takings().stream().filter(taking -> taking.gates == road.gates.size())
            .min(Comparator.comparingInt(Taking::cost).thenComparingInt(Taking::set))
            .map(taking -> what == 0 ? taking.cost : taking.set).orElse(NONE);
    }

    int farthest(int what) {
        if (what < 0 || what > 2) {
            return BAD;
        }
        return takings().stream()
            .min(Comparator.comparingInt((Taking taking) -> -taking.gates).thenComparingInt(Taking::cost)
                .thenComparingInt(Taking::set))
            .map(taking -> new int[] {taking.gates, taking.cost, taking.set}[what]).orElseThrow();
    }

    int judged(int n, int row) {
        if (n < 1 || n > 8 || row < 0 || Integer.toString(row).length() > n) {
            return BAD;
        }
        String figures = "0".repeat(n - Integer.toString(row).length()) + row;
        State state = now.copy();
        for (int place = 0; place < n; place++) {
            if (!state.act(figures.charAt(place) - '0')) {
                return place;
            }
        }
        return NONE;
    }

    int orders(int set) {
        List<Integer> some = new ArrayList<>();
        for (int bit = 0; bit < 32; bit++) {
            if ((set >>> bit & 1) == 1) {
                if (bit >= road.beasts.size()) {
                    return BAD;
                }
                some.add(bit);
            }
        }
        return orders(some, new State());
    }

    private int orders(List<Integer> left, State state) {
        if (left.isEmpty()) {
            return 1;
        }
        int rows = 0;
        for (int who : left) {
            if (state.asks(who) <= road.beasts.get(who).price) {
                State then = state.copy();
                then.band.put(who, new Member(state.asks(who), 0));
                List<Integer> others = new ArrayList<>(left);
                others.remove(Integer.valueOf(who));
                rows += orders(others, then);
            }
        }
        return rows;
    }

    int lasts() {
        State state = now.copy();
        int size = state.band.size();
        for (int dusks = 0; dusks <= 99; dusks++) {
            if (state.band.size() < size) {
                return dusks;
            }
            state.dusk();
        }
        return NONE;
    }

    int feeds() {
        State state = now.copy();
        state.dusk();
        return now.pouch - state.pouch;
    }

    private static int fraction(BigInteger above, BigInteger below, boolean upper) {
        BigInteger divisor = above.gcd(below);
        return (upper ? above : below).divide(divisor).intValueExact();
    }

    int odds(int gate, boolean upper) {
        if (!isGate(gate)) {
            return UNKNOWN;
        }
        BigInteger above = BigInteger.ZERO;
        BigInteger below = BigInteger.ONE;
        for (int who : now.band.keySet()) {
            Beast beast = road.beasts.get(who);
            if (beast.skill == road.gates.get(gate).skill) {
                // open already, or shut and opened by this one
                above = above.multiply(BigInteger.TEN)
                    .add(below.subtract(above).multiply(BigInteger.valueOf(beast.strength)));
                below = below.multiply(BigInteger.TEN);
            }
        }
        return fraction(above, below, upper);
    }

    int first(int gate) {
        if (!isGate(gate)) {
            return UNKNOWN;
        }
        return now.band.keySet().stream()
            .filter(who -> road.beasts.get(who).skill == road.gates.get(gate).skill)
            .min(Comparator.comparingInt((Integer who) -> -road.beasts.get(who).strength)
                .thenComparingInt(who -> who))
            .orElse(NONE);
    }

    /** No two of THE BAND are ever ENEMIES (one of them left when the second came), so any load will do. */
    int boat(int k) {
        if (k < 1 || k > 3) {
            return BAD;
        }
        int over = (now.band.size() + k - 1) / k;
        return over == 0 ? 0 : 2 * over - 1;
    }

    int share(int beast, int t) {
        if (!isBeast(beast)) {
            return UNKNOWN;
        }
        if (t < 0 || t > 99) {
            return BAD;
        }
        if (!now.band.containsKey(beast)) {
            return 0;
        }
        return t * road.beasts.get(beast).strength / strength(new ArrayList<>(now.band.keySet()));
    }

    int envies(int t) {
        if (t < 0 || t > 99) {
            return BAD;
        }
        int envious = 0;
        for (int who : now.band.keySet()) {
            envious += share(who, t) < now.band.get(who).given ? 1 << who : 0;
        }
        return envious;
    }

    int eaten(int n, int what) {
        if (n < 0 || n > 60 || what < 0 || what > 1) {
            return BAD;
        }
        List<Integer> sets = new ArrayList<>();
        addSets(sets, 0, 0, n);
        if (what == 0) {
            return sets.size();
        }
        return sets.stream().reduce((one, other) -> one & other).orElse(NONE);
    }

    private void addSets(List<Integer> sets, int beast, int set, int left) {
        if (beast == road.beasts.size()) {
            if (left == 0) {
                sets.add(set);
            }
            return;
        }
        boolean mayEat = true;
        boolean mayFast = true;
        for (int[] one : told) {
            if (one[0] == beast) {
                mayEat &= one[1] == 1;
                mayFast &= one[1] == 0;
            }
        }
        if (mayFast) {
            addSets(sets, beast + 1, set, left);
        }
        if (mayEat) {
            addSets(sets, beast + 1, set + (1 << beast), left - road.beasts.get(beast).price);
        }
    }

    int tell(int beast, boolean ate) {
        if (!isBeast(beast)) {
            return UNKNOWN;
        }
        if (told.size() == 6) {
            return FULL;
        }
        told.add(new int[] {beast, ate ? 1 : 0});
        return told.size();
    }

    int untell() {
        int were = told.size();
        told.clear();
        return were;
    }

    int luck(int gate, int x, boolean upper) {
        if (!isGate(gate)) {
            return UNKNOWN;
        }
        if (x < 0 || x > 10) {
            return BAD;
        }
        List<Integer> band = new ArrayList<>(now.band.keySet());
        long ways = ways(band, 0, new ArrayList<>(), gate, x);
        return fraction(BigInteger.valueOf(ways), BigInteger.TEN.pow(band.size()), upper);
    }

    private long ways(List<Integer> band, int at, List<Integer> left, int gate, int x) {
        if (at == band.size()) {
            return fits(left, road.gates.get(gate)) ? 1 : 0;
        }
        List<Integer> more = new ArrayList<>(left);
        more.add(band.get(at));
        return x * ways(band, at + 1, left, gate, x) + (10 - x) * ways(band, at + 1, more, gate, x);
    }

    long seed(long v) {
        long was = seed.longValue();
        seed = BigInteger.valueOf(v).and(BigInteger.ONE.shiftLeft(64).subtract(BigInteger.ONE));
        return was;
    }

    int roam(int t) {
        if (t < 0 || t > 10) {
            return BAD;
        }
        State state = now.copy();
        while (!state.nobodyIsNext()) {
            seed = seed.multiply(new BigInteger("6364136223846793005")).add(new BigInteger("1442695040888963407"))
                .mod(BigInteger.ONE.shiftLeft(64));
            boolean isWanted = seed.shiftRight(33).mod(BigInteger.TEN).intValue() < t;
            if (!isWanted || state.give() == NONE) {
                state.next++;
            }
        }
        return state.bits();
    }

    int keep(int slot) {
        if (slot < 0 || slot > 1) {
            return UNKNOWN;
        }
        kept[slot] = now.copy();
        return now.band.size();
    }

    int again(int slot) {
        if (slot < 0 || slot > 1) {
            return UNKNOWN;
        }
        if (kept[slot] == null) {
            return LATE;
        }
        now = kept[slot].copy();
        acts.clear();
        return now.band.size();
    }
}
