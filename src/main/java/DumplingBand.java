/**
 * A boy on his way to an island gives dumplings to beasts that ask and come along.
 * Words in capitals are those of ../shared/DOC.md. Every row is made in a constructor
 * and used again: no call makes an object.
 */
public final class DumplingBand {
    public static final int UNKNOWN = -1, BAD = -2, LATE = -3, FULL = -4, NONE = -9;

    private static final int MOST_BEASTS = 6;
    private static final int MOST_GATES = 3;
    private static final int MOST_BYTES = 64;
    private static final int MOST_ACTS = 14;
    private static final int MOST_TOLD = 6;
    private static final int MOST_DUSKS = 99;
    private static final int MOST_COINS = 99;
    private static final int MOST_EATEN = 60;
    private static final int MOST_JUDGED = 8;
    private static final int MOST_IN_BOAT = 3;
    private static final int SLOTS = 2;
    private static final int HALVED = 1, ENVIOUS = 2, TRAITOR = 3;

    private final Scroll scroll = new Scroll();
    private final Road road = new Road();
    private final Road draft = new Road();
    private final March march = new March(road);
    private final March trial = new March(road);
    private final Acts acts = new Acts(road);
    private final March[] slots = new March[SLOTS];
    private final boolean[] isKept = new boolean[SLOTS];
    private final Ferry ferry = new Ferry();
    private final Rows rows = new Rows();
    private int toldCount;
    private int toldAte;
    private int toldFasted;
    private long grain;

    public DumplingBand() {
        for (int slot = 0; slot < SLOTS; slot++) {
            slots[slot] = new March(road);
        }
    }

    // ---- the road

    public int write(int letter) {
        if (letter < 0 || letter > 255) {
            return BAD;
        }
        return scroll.append(letter) ? scroll.length : FULL;
    }

    public int wipe() {
        int was = scroll.length;
        scroll.length = 0;
        return was;
    }

    public int fault() {
        return scroll.read(draft);
    }

    public int road() {
        if (scroll.read(draft) != NONE) {
            return LATE;
        }
        scroll.read(road);
        march.start();
        acts.forget();
        for (int slot = 0; slot < SLOTS; slot++) {
            isKept[slot] = false;
        }
        return road.beasts;
    }

    public int about(int what) {
        switch (what) {
            case 0: return road.beasts;
            case 1: return march.pouch;
            case 2: return march.band;
            case 3: return road.strengthOf(march.band);
            case 4: return march.day;
            case 5: return march.whoIsNext();
            case 6: return road.gates;
            case 7: return march.opened;
            case 8: return acts.count;
            case 9: return toldCount;
            case 10: return scroll.length;
            case 11: return road.skillsOf(march.band);
            default: return BAD;
        }
    }

    public int beast(int beast, int what) {
        if (!road.hasBeast(beast)) {
            return UNKNOWN;
        }
        switch (what) {
            case 0: return road.kind[beast];
            case 1: return road.price[beast];
            case 2: return road.strength[beast];
            case 3: return road.skill[beast];
            case 4: return road.enemies[beast];
            case 5: return march.asks(beast);
            case 6: return march.holds(beast) ? march.given[beast] : NONE;
            default: return BAD;
        }
    }

    public int gate(int gate, int what) {
        if (!road.hasGate(gate)) {
            return UNKNOWN;
        }
        switch (what) {
            case 0: return road.gateSkill[gate];
            case 1: return road.gateStrength[gate];
            case 2: return gate < march.opened ? 1 : 0;
            default: return BAD;
        }
    }

    // ---- acts

    public int give() {
        if (!march.hasNext()) {
            return LATE;
        }
        if (!march.canCome()) {
            return FULL;
        }
        acts.remember(march);
        return march.come();
    }

    public int pass() {
        if (!march.hasNext()) {
            return LATE;
        }
        acts.remember(march);
        march.skip();
        return march.whoIsNext();
    }

    public int dusk() {
        acts.remember(march);
        return march.sleep();
    }

    public int open() {
        if (!march.canUnlock()) {
            return LATE;
        }
        acts.remember(march);
        return march.unlock();
    }

    public int undo() {
        return acts.takeBack(march) ? acts.count : LATE;
    }

    // ---- takings

    public int taking(int set, int what) {
        if (!isToCome(set) || what < 0 || what > 2) {
            return BAD;
        }
        int cost = costOfTaking(set);
        if (cost == NONE) {
            return NONE;
        }
        return what == 0 ? cost : what == 1 ? trial.band : trial.opened;
    }

    public int cheapest(int what) {
        if (what < 0 || what > 1) {
            return BAD;
        }
        int best = NONE;
        int bestCost = NONE;
        for (int set = 0; set <= road.allBeasts(); set++) {
            int cost = isToCome(set) ? costOfTaking(set) : NONE;
            if (cost != NONE && trial.opened == road.gates && (best == NONE || cost < bestCost)) {
                best = set;
                bestCost = cost;
            }
        }
        return what == 0 ? bestCost : best;
    }

    public int farthest(int what) {
        if (what < 0 || what > 2) {
            return BAD;
        }
        int best = NONE;
        int bestCost = NONE;
        int bestGates = NONE;
        for (int set = 0; set <= road.allBeasts(); set++) {
            int cost = isToCome(set) ? costOfTaking(set) : NONE;
            if (cost != NONE && (trial.opened > bestGates || trial.opened == bestGates && cost < bestCost)) {
                best = set;
                bestCost = cost;
                bestGates = trial.opened;
            }
        }
        return what == 0 ? bestGates : what == 1 ? bestCost : best;
    }

    public int judged(int n, int row) {
        if (n < 1 || n > MOST_JUDGED || row < 0 || row >= power(10, n)) {
            return BAD;
        }
        trial.copyFrom(march);
        int weight = power(10, n - 1);
        for (int place = 0; place < n && weight > 0; place++) {
            if (!trial.tries(row / weight % 10)) {
                return place;
            }
            weight /= 10;
        }
        return NONE;
    }

    public int orders(int set) {
        return road.hasAll(set) ? rows.count(road, set) : BAD;
    }

    public int lasts() {
        if (march.band == 0) {
            return NONE;
        }
        trial.copyFrom(march);
        for (int dusks = 1; dusks <= MOST_DUSKS; dusks++) {
            if (trial.sleep() != 0) {
                return dusks;
            }
        }
        return NONE;
    }

    public int feeds() {
        return Math.min(Integer.bitCount(march.band), march.pouch);
    }

    // ---- gates, boats, shares

    public int odds(int gate, boolean upper) {
        if (!road.hasGate(gate)) {
            return UNKNOWN;
        }
        int all = 1;
        int shut = 1;
        for (int beast = 0; beast < road.beasts; beast++) {
            if (march.holds(beast) && road.skill[beast] == road.gateSkill[gate]) {
                all *= 10;
                shut *= 10 - road.strength[beast];
            }
        }
        return inLeastTerms(all - shut, all, upper);
    }

    public int first(int gate) {
        if (!road.hasGate(gate)) {
            return UNKNOWN;
        }
        int best = NONE;
        int bestStrength = 0;
        for (int beast = 0; beast < road.beasts; beast++) {
            boolean isAble = march.holds(beast) && road.skill[beast] == road.gateSkill[gate];
            if (isAble && road.strength[beast] > bestStrength) {
                best = beast;
                bestStrength = road.strength[beast];
            }
        }
        return best;
    }

    public int boat(int k) {
        return k < 1 || k > MOST_IN_BOAT ? BAD : ferry.crossings(road, march.band, k);
    }

    public int share(int beast, int t) {
        if (!road.hasBeast(beast)) {
            return UNKNOWN;
        }
        return isCoins(t) ? shareOf(beast, t) : BAD;
    }

    public int envies(int t) {
        if (!isCoins(t)) {
            return BAD;
        }
        int envious = 0;
        for (int beast = 0; beast < road.beasts; beast++) {
            if (march.holds(beast) && shareOf(beast, t) < march.given[beast]) {
                envious |= 1 << beast;
            }
        }
        return envious;
    }

    // ---- eaten, chances

    public int eaten(int n, int what) {
        if (n < 0 || n > MOST_EATEN || what < 0 || what > 1) {
            return BAD;
        }
        int sets = 0;
        int ofAll = road.allBeasts();
        for (int set = 0; set <= road.allBeasts(); set++) {
            if (road.priceOf(set) == n && isAsTold(set)) {
                sets++;
                ofAll &= set;
            }
        }
        if (what == 0) {
            return sets;
        }
        return sets == 0 ? NONE : ofAll;
    }

    public int tell(int beast, boolean ate) {
        if (!road.hasBeast(beast)) {
            return UNKNOWN;
        }
        if (toldCount >= MOST_TOLD) {
            return FULL;
        }
        if (ate) {
            toldAte |= 1 << beast;
        } else {
            toldFasted |= 1 << beast;
        }
        toldCount++;
        return toldCount;
    }

    public int untell() {
        int was = toldCount;
        toldCount = 0;
        toldAte = 0;
        toldFasted = 0;
        return was;
    }

    public int luck(int gate, int x, boolean upper) {
        if (!road.hasGate(gate)) {
            return UNKNOWN;
        }
        if (x < 0 || x > 10) {
            return BAD;
        }
        int ways = 0;
        for (int left = 0; left <= march.band; left++) {
            if ((left & ~march.band) == 0 && road.canOpen(left, gate)) {
                int gone = march.band & ~left;
                ways += power(10 - x, Integer.bitCount(left)) * power(x, Integer.bitCount(gone));
            }
        }
        return inLeastTerms(ways, power(10, Integer.bitCount(march.band)), upper);
    }

    public long seed(long v) {
        long was = grain;
        grain = v;
        return was;
    }

    public int roam(int t) {
        if (t < 0 || t > 10) {
            return BAD;
        }
        trial.copyFrom(march);
        for (int beast = march.next; beast < road.beasts; beast++) {
            grain = grain * 6364136223846793005L + 1442695040888963407L;
            if ((grain >>> 33) % 10 < t && trial.canCome()) {
                trial.come();
            } else {
                trial.skip();
            }
        }
        return trial.band;
    }

    // ---- slots

    public int keep(int slot) {
        if (!isSlot(slot)) {
            return UNKNOWN;
        }
        slots[slot].copyFrom(march);
        isKept[slot] = true;
        return Integer.bitCount(march.band);
    }

    public int again(int slot) {
        if (!isSlot(slot)) {
            return UNKNOWN;
        }
        if (!isKept[slot]) {
            return LATE;
        }
        march.copyFrom(slots[slot]);
        acts.forget();
        return Integer.bitCount(march.band);
    }

    // ---- what the calls share

    private static boolean isSlot(int slot) {
        return slot >= 0 && slot < SLOTS;
    }

    private static boolean isCoins(int t) {
        return t >= 0 && t <= MOST_COINS;
    }

    private boolean isToCome(int set) {
        int gone = (1 << march.next) - 1;
        return road.hasAll(set) && (set & gone) == 0;
    }

    /** The COST, or NONE; behind it the trial stands where the TAKING ends, its GATES open. */
    private int costOfTaking(int set) {
        trial.copyFrom(march);
        for (int beast = march.next; beast < road.beasts; beast++) {
            if ((set & 1 << beast) == 0) {
                trial.skip();
            } else if (trial.canCome()) {
                trial.come();
            } else {
                return NONE;
            }
        }
        for (int gate = 0; gate < road.gates && trial.canUnlock(); gate++) {
            trial.unlock();
        }
        return march.pouch - trial.pouch;
    }

    private int shareOf(int beast, int t) {
        int all = road.strengthOf(march.band);
        return march.holds(beast) && all > 0 ? t * road.strength[beast] / all : 0;
    }

    /** What was TOLD of a BEAST that is not on THE ROAD now is kept, but not looked at. */
    private boolean isAsTold(int set) {
        int mustBe = toldAte & road.allBeasts();
        return (set & mustBe) == mustBe && (set & toldFasted) == 0;
    }

    private static int power(int base, int times) {
        int product = 1;
        for (int time = 0; time < times; time++) {
            product *= base;
        }
        return product;
    }

    private static int inLeastTerms(int above, int below, boolean upper) {
        int divisor = greatestDivisor(above, below);
        int term = upper ? above : below;
        return divisor > 0 ? term / divisor : term;
    }

    /** Euclid's steps at least halve the number every second time, so 64 are more than enough. */
    private static int greatestDivisor(int one, int other) {
        int big = one;
        int small = other;
        for (int step = 0; step < 64 && small > 0; step++) {
            int left = big % small;
            big = small;
            small = left;
        }
        return big;
    }

    /** THE TEXT, and its reader, which stops at the FAULT. */
    private static final class Scroll {
        private final int[] letters = new int[MOST_BYTES];
        int length;
        private int at;
        private boolean isStopped;

        boolean append(int letter) {
            if (length >= MOST_BYTES) {
                return false;
            }
            letters[length] = letter;
            length++;
            return true;
        }

        /** Reads THE TEXT into a ROAD; answers the FAULT. */
        int read(Road into) {
            at = 0;
            isStopped = false;
            into.clear();
            expect('R');
            int tens = figure(0, 9);
            int ones = figure(0, 9);
            into.dumplings = 10 * tens + ones;
            for (int part = 0; part < MOST_BYTES && !isStopped && at < length; part++) {
                readPart(into);
            }
            return isStopped ? at : NONE;
        }

        private void readPart(Road into) {
            int letter = peek();
            if (letter == 'B' && into.beasts < MOST_BEASTS) {
                readBeast(into);
            } else if (letter == 'E' && into.canHaveEnemies()) {
                readEnemies(into);
            } else if (letter == 'G' && into.gates < MOST_GATES) {
                readGate(into);
            } else {
                isStopped = true;
            }
        }

        private void readBeast(Road into) {
            expect('B');
            int kind = figure(0, 3);
            int price = figure(1, 9);
            int strength = figure(1, 9);
            int skill = figure(0, 3);
            if (!isStopped) {
                into.addBeast(kind, price, strength, skill);
            }
        }

        private void readEnemies(Road into) {
            expect('E');
            int one = figureOf(into.thoseWhoMayHaveEnemies());
            int other = figureOf(into.newEnemiesFor(one));
            if (!isStopped) {
                into.addEnemies(one, other);
            }
        }

        private void readGate(Road into) {
            expect('G');
            int skill = figure(0, 3);
            int tens = figure(0, 5);
            int ones = figure(tens == 0 ? 1 : 0, tens == 5 ? 4 : 9);
            if (!isStopped) {
                into.addGate(skill, 10 * tens + ones);
            }
        }

        private int peek() {
            return at >= 0 && at < length && at < MOST_BYTES ? letters[at] : NONE;
        }

        private void expect(int letter) {
            if (!isStopped && peek() == letter) {
                at++;
            } else {
                isStopped = true;
            }
        }

        private int figure(int least, int most) {
            int figure = peek() - '0';
            if (isStopped || figure < least || figure > most) {
                isStopped = true;
                return least;
            }
            at++;
            return figure;
        }

        private int figureOf(int set) {
            int figure = peek() - '0';
            if (isStopped || figure < 0 || figure >= MOST_BEASTS || (set & 1 << figure) == 0) {
                isStopped = true;
                return 0;
            }
            at++;
            return figure;
        }
    }

    /** What THE ROAD's text tells. */
    private static final class Road {
        int dumplings;
        int beasts;
        int gates;
        final int[] kind = new int[MOST_BEASTS];
        final int[] price = new int[MOST_BEASTS];
        final int[] strength = new int[MOST_BEASTS];
        final int[] skill = new int[MOST_BEASTS];
        final int[] enemies = new int[MOST_BEASTS];
        final int[] gateSkill = new int[MOST_GATES];
        final int[] gateStrength = new int[MOST_GATES];

        void clear() {
            dumplings = 0;
            beasts = 0;
            gates = 0;
        }

        void addBeast(int itsKind, int itsPrice, int itsStrength, int itsSkill) {
            if (beasts < MOST_BEASTS) {
                kind[beasts] = itsKind;
                price[beasts] = itsPrice;
                strength[beasts] = itsStrength;
                skill[beasts] = itsSkill;
                enemies[beasts] = 0;
                beasts++;
            }
        }

        void addGate(int itsSkill, int itsStrength) {
            if (gates < MOST_GATES) {
                gateSkill[gates] = itsSkill;
                gateStrength[gates] = itsStrength;
                gates++;
            }
        }

        void addEnemies(int one, int other) {
            if (hasBeast(one) && hasBeast(other)) {
                enemies[one] |= 1 << other;
                enemies[other] |= 1 << one;
            }
        }

        boolean canHaveEnemies() {
            return thoseWhoMayHaveEnemies() != 0;
        }

        int thoseWhoMayHaveEnemies() {
            int set = 0;
            for (int beast = 0; beast < beasts; beast++) {
                if (newEnemiesFor(beast) != 0) {
                    set |= 1 << beast;
                }
            }
            return set;
        }

        int newEnemiesFor(int beast) {
            return hasBeast(beast) ? allBeasts() & ~enemies[beast] & ~(1 << beast) : 0;
        }

        boolean hasBeast(int beast) {
            return beast >= 0 && beast < beasts;
        }

        boolean hasGate(int gate) {
            return gate >= 0 && gate < gates;
        }

        int allBeasts() {
            return (1 << beasts) - 1;
        }

        boolean hasAll(int set) {
            return (set & ~allBeasts()) == 0;
        }

        int strengthOf(int set) {
            return sumOf(strength, set);
        }

        int priceOf(int set) {
            return sumOf(price, set);
        }

        private int sumOf(int[] each, int set) {
            int sum = 0;
            for (int beast = 0; beast < beasts && beast < each.length; beast++) {
                if ((set & 1 << beast) != 0) {
                    sum += each[beast];
                }
            }
            return sum;
        }

        int skillsOf(int set) {
            int skills = 0;
            for (int beast = 0; beast < beasts; beast++) {
                if ((set & 1 << beast) != 0) {
                    skills |= 1 << skill[beast];
                }
            }
            return skills;
        }

        /** What one ASKS who envies nobody. */
        int plainAsk(int beast) {
            if (!hasBeast(beast)) {
                return 0;
            }
            return kind[beast] == HALVED ? (price[beast] + 1) / 2 : price[beast];
        }

        boolean canOpen(int set, int gate) {
            return hasGate(gate) && (skillsOf(set) & 1 << gateSkill[gate]) != 0
                && strengthOf(set) >= gateStrength[gate];
        }

        boolean hasEnemies(int set) {
            int hated = 0;
            for (int beast = 0; beast < beasts; beast++) {
                if ((set & 1 << beast) != 0) {
                    hated |= enemies[beast];
                }
            }
            return (set & hated) != 0;
        }
    }

    /**
     * All that an ACT changes. Who came when is not held: of two that quarrel the one that
     * came last is always the new one, so nothing ever looks at it.
     */
    private static final class March {
        private final Road road;
        int pouch;
        int band;
        int day;
        int next;
        int opened;
        final int[] given = new int[MOST_BEASTS];

        March(Road itsRoad) {
            road = itsRoad;
        }

        void start() {
            pouch = road.dumplings;
            band = 0;
            day = 0;
            next = 0;
            opened = 0;
        }

        void copyFrom(March other) {
            pouch = other.pouch;
            band = other.band;
            day = other.day;
            next = other.next;
            opened = other.opened;
            for (int beast = 0; beast < MOST_BEASTS; beast++) {
                given[beast] = other.given[beast];
            }
        }

        boolean holds(int beast) {
            return (band & 1 << beast) != 0;
        }

        boolean hasNext() {
            return road.hasBeast(next);
        }

        int whoIsNext() {
            return hasNext() ? next : NONE;
        }

        int asks(int beast) {
            int ask = road.plainAsk(beast);
            boolean isEnvious = road.hasBeast(beast) && road.kind[beast] == ENVIOUS;
            return isEnvious ? Math.max(ask, mostGiven()) : ask;
        }

        private int mostGiven() {
            int most = 0;
            for (int beast = 0; beast < road.beasts; beast++) {
                if (holds(beast)) {
                    most = Math.max(most, given[beast]);
                }
            }
            return most;
        }

        boolean canCome() {
            return hasNext() && asks(next) <= pouch;
        }

        /** GIVEN: answers who left by a quarrel. */
        int come() {
            if (!canCome()) {
                return 0;
            }
            int one = next;
            int price = asks(one);
            pouch -= price;
            given[one] = price;
            band |= 1 << one;
            next++;
            return quarrel(one);
        }

        private int quarrel(int one) {
            int before = band;
            for (int other = 0; other < road.beasts && holds(one); other++) {
                if (holds(other) && (road.enemies[one] & 1 << other) != 0) {
                    int loser = road.strength[other] < road.strength[one] ? other : one;
                    band &= ~(1 << loser);
                }
            }
            return before & ~band;
        }

        void skip() {
            if (hasNext()) {
                next++;
            }
        }

        /** A DUSK: answers who leaves. */
        int sleep() {
            int before = band;
            int traitors = 0;
            for (int beast = 0; beast < road.beasts; beast++) {
                if (holds(beast) && pouch > 0) {
                    pouch--;
                } else {
                    band &= ~(1 << beast);
                }
                if (road.kind[beast] == TRAITOR) {
                    traitors |= 1 << beast;
                }
            }
            band &= ~traitors;
            day++;
            return before & ~band;
        }

        boolean canUnlock() {
            return road.canOpen(band, opened);
        }

        /** A GATE is OPENED: answers which. */
        int unlock() {
            int gate = opened;
            opened++;
            return gate;
        }

        /** An ACT told as a figure; answers false if it can not be. */
        boolean tries(int figure) {
            boolean canBe = figure == 0 && hasNext() || figure == 1 && canCome()
                || figure == 2 || figure == 3 && canUnlock();
            if (canBe) {
                switch (figure) {
                    case 0: skip(); break;
                    case 1: come(); break;
                    case 2: sleep(); break;
                    default: unlock(); break;
                }
            }
            return canBe;
        }
    }

    /** The row of ACTS: how it was ahead of each, in a ring. */
    private static final class Acts {
        private final March[] before = new March[MOST_ACTS];
        private int oldest;
        int count;

        Acts(Road road) {
            for (int act = 0; act < MOST_ACTS; act++) {
                before[act] = new March(road);
            }
        }

        void forget() {
            count = 0;
        }

        void remember(March march) {
            before[placeOf(count)].copyFrom(march);
            if (count < MOST_ACTS) {
                count++;
            } else {
                oldest = placeOf(1);
            }
        }

        boolean takeBack(March march) {
            if (count <= 0) {
                return false;
            }
            count--;
            march.copyFrom(before[placeOf(count)]);
            return true;
        }

        private int placeOf(int act) {
            return (oldest + act) % MOST_ACTS;
        }
    }

    /** ORDERS, counted from smaller sets up. */
    private static final class Rows {
        private final int[] ways = new int[1 << MOST_BEASTS];

        int count(Road road, int set) {
            if (set < 0 || set >= ways.length) {
                return 0;
            }
            ways[0] = 1;
            for (int some = 1; some <= set; some++) {
                ways[some] = (some & ~set) == 0 ? waysOf(road, some) : 0;
            }
            return ways[set];
        }

        private int waysOf(Road road, int some) {
            int sum = 0;
            for (int last = 0; last < road.beasts; last++) {
                int others = some & ~(1 << last);
                if (others != some && isContent(road, last, others)) {
                    sum += ways[others];
                }
            }
            return sum;
        }

        /** The rows of the others that count are those in which each was given its plain ask. */
        private boolean isContent(Road road, int last, int others) {
            if (road.kind[last] != ENVIOUS) {
                return true;
            }
            for (int other = 0; other < road.beasts; other++) {
                if ((others & 1 << other) != 0 && road.plainAsk(other) > road.price[last]) {
                    return false;
                }
            }
            return true;
        }
    }

    /**
     * The BOAT, by looking at all that can be, nearest first. A state is the set on the
     * near side, twice, and 1 if the boy is on the far side.
     */
    private static final class Ferry {
        private static final int STATES = 2 << MOST_BEASTS;
        private final int[] trips = new int[STATES];
        private final int[] queue = new int[STATES];
        private int queued;

        int crossings(Road road, int band, int k) {
            if (band == 0) {
                return 0;
            }
            for (int state = 0; state < STATES; state++) {
                trips[state] = NONE;
            }
            queued = 0;
            enter(band << 1, 0);
            for (int head = 0; head < queued && head < STATES; head++) {
                rowFrom(road, band, k, queue[head]);
            }
            return trips[1];
        }

        private void rowFrom(Road road, int band, int k, int state) {
            int near = state >> 1;
            int side = state & 1;
            int bank = side == 0 ? near : band & ~near;
            for (int load = 0; load <= bank; load++) {
                boolean fits = (load & ~bank) == 0 && Integer.bitCount(load) <= k;
                if (fits && !road.hasEnemies(bank & ~load)) {
                    enter((near ^ load) << 1 | 1 - side, trips[state] + 1);
                }
            }
        }

        private void enter(int state, int trip) {
            if (state >= 0 && state < STATES && queued < STATES && trips[state] == NONE) {
                trips[state] = trip;
                queue[queued] = state;
                queued++;
            }
        }
    }
}
