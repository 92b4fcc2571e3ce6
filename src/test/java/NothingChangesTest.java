import java.util.ArrayList;
import java.util.Arrays;
import java.util.LinkedHashMap;
import java.util.List;
import java.util.Map;

/**
 * What is refused changes nothing, nor what is only asked: an object that was so called
 * goes on just as its twin that was not. All that can be seen of both is compared.
 */
public final class NothingChangesTest extends Edges {
    /** Nothing was called yet; a new ROAD; amid it; all full, or empty, or at its end. */
    private enum State { NEW, START, MIDDLE, POOR, END }

    private interface Call {
        long on(DumplingBand band);
    }

    public static void main(String[] args) {
        runAll(NothingChangesTest.class);
    }

    private static DumplingBand in(State state) {
        DumplingBand band = new DumplingBand();
        switch (state) {
            case START: Checks.takeRoad(band, FOUR); break;
            case MIDDLE: goAmid(band); break;
            case POOR: Checks.takeRoad(band, "R03B0210B0210B0110G002"); band.give(); break;
            case END: goToTheEnd(band); break;
            default: break;
        }
        return band;
    }

    private static void goAmid(DumplingBand band) {
        Checks.takeRoad(band, FOUR);
        band.give();
        band.keep(0);
        band.give();
        band.open();
        band.keep(1);
        band.dusk();
        band.tell(0, true);
        band.tell(2, false);
        band.tell(3, true);
        band.seed(77);
        band.write('B');
    }

    /** A full TEXT, a full row of ACTS, six TOLD, nobody next, no DUMPLINGS, all GATES open. */
    private static void goToTheEnd(DumplingBand band) {
        Checks.takeRoad(band, "R06" + LONGEST.substring(3));
        Checks.giveAll(band, 6);
        band.open();
        band.keep(1);
        slept(band, 9);
        told(band, 5).tell(1, false);
        band.seed(-1);
    }

    /** All that can be seen; it changes the object, by fewer than 330 calls. */
    private static int[] allSeen(DumplingBand band) {
        List<Integer> seen = new ArrayList<>();
        for (int answer : about(band)) {
            seen.add(answer);
        }
        seen.add(band.fault());
        for (int beast = 0; beast < 6; beast++) {
            for (int answer : Checks.beast(band, beast)) {
                seen.add(answer);
            }
        }
        for (int gate = 0; gate < 3; gate++) {
            for (int what = 0; what < 3; what++) {
                seen.add(band.gate(gate, what));
            }
        }
        for (int n = 0; n <= 21; n++) {
            seen.add(band.eaten(n, 0));
        }
        seen.add(Long.hashCode(band.seed(0)));
        for (int act = 0; act <= 14; act++) {
            seen.add(band.undo());
            addMarch(seen, band);
        }
        for (int slot = 0; slot < 2; slot++) {
            seen.add(band.again(slot));
            addMarch(seen, band);
        }
        seen.add(band.untell());
        seen.add(band.road());
        addMarch(seen, band);
        seen.add(band.wipe());
        return seen.stream().mapToInt(answer -> answer).toArray();
    }

    private static void addMarch(List<Integer> seen, DumplingBand band) {
        for (int what : new int[] {1, 2, 4, 5, 7}) {
            seen.add(band.about(what));
        }
        for (int beast = 0; beast < 6; beast++) {
            seen.add(band.beast(beast, 6));
        }
    }

    private static void refused(State state, String name, Call call, int refusal) {
        DumplingBand band = in(state);
        due(state + ": " + name, call.on(band), refusal);
        due(state + ": " + name + " once more", call.on(band), refusal);
        rowDue(state + ": behind " + name, allSeen(band), allSeen(in(state)));
    }

    private static void refusedAlways(String name, Call call, int refusal) {
        for (State state : State.values()) {
            refused(state, name, call, refusal);
        }
    }

    private static void theTwinsAreNotAlike() {
        for (State one : State.values()) {
            for (State other : State.values()) {
                due(one + " is as " + other, Arrays.equals(allSeen(in(one)), allSeen(in(other))) ? 1 : 0,
                    one == other ? 1 : 0);
            }
        }
    }

    private static void badNumbers() {
        for (int bad : new int[] {LEAST, -10, -9, -4, -3, -2, -1, 256, MOST}) {
            refusedAlways("write(" + bad + ")", band -> band.write(bad), BAD);
            refusedAlways("about(" + bad + ")", band -> band.about(bad), BAD);
            refusedAlways("taking(" + bad + ", 0)", band -> band.taking(bad, 0), BAD);
            refusedAlways("taking(0, " + bad + ")", band -> band.taking(0, bad), BAD);
            refusedAlways("cheapest(" + bad + ")", band -> band.cheapest(bad), BAD);
            refusedAlways("farthest(" + bad + ")", band -> band.farthest(bad), BAD);
            refusedAlways("judged(" + bad + ", 0)", band -> band.judged(bad, 0), BAD);
            refusedAlways("judged(1, " + bad + ")", band -> band.judged(1, bad), BAD);
            refusedAlways("orders(" + bad + ")", band -> band.orders(bad), BAD);
            refusedAlways("boat(" + bad + ")", band -> band.boat(bad), BAD);
            refusedAlways("envies(" + bad + ")", band -> band.envies(bad), BAD);
            refusedAlways("eaten(" + bad + ", 0)", band -> band.eaten(bad, 0), BAD);
            refusedAlways("eaten(0, " + bad + ")", band -> band.eaten(0, bad), BAD);
            refusedAlways("roam(" + bad + ")", band -> band.roam(bad), BAD);
        }
    }

    private static void badNumbersJustOutside() {
        refusedAlways("about(12)", band -> band.about(12), BAD);
        refusedAlways("taking(64, 0)", band -> band.taking(64, 0), BAD);
        refusedAlways("taking(0, 3)", band -> band.taking(0, 3), BAD);
        refusedAlways("cheapest(2)", band -> band.cheapest(2), BAD);
        refusedAlways("farthest(3)", band -> band.farthest(3), BAD);
        refusedAlways("judged(0, 0)", band -> band.judged(0, 0), BAD);
        refusedAlways("judged(9, 0)", band -> band.judged(9, 0), BAD);
        refusedAlways("judged(1, 10)", band -> band.judged(1, 10), BAD);
        refusedAlways("judged(8, 100000000)", band -> band.judged(8, 100000000), BAD);
        refusedAlways("orders(64)", band -> band.orders(64), BAD);
        refusedAlways("boat(0)", band -> band.boat(0), BAD);
        refusedAlways("boat(4)", band -> band.boat(4), BAD);
        refusedAlways("envies(100)", band -> band.envies(100), BAD);
        refusedAlways("eaten(61, 0)", band -> band.eaten(61, 0), BAD);
        refusedAlways("eaten(0, 2)", band -> band.eaten(0, 2), BAD);
        refusedAlways("roam(11)", band -> band.roam(11), BAD);
    }

    private static void badWhereThereIsABeastOrAGate() {
        for (State state : new State[] {State.START, State.MIDDLE, State.POOR, State.END}) {
            for (int bad : new int[] {LEAST, -1, 7, MOST}) {
                refused(state, "beast(0, " + bad + ")", band -> band.beast(0, bad), BAD);
                refused(state, "gate(0, " + bad + ")", band -> band.gate(0, bad), BAD);
            }
            refused(state, "gate(0, 3)", band -> band.gate(0, 3), BAD);
            for (int bad : new int[] {LEAST, -1, 100, MOST}) {
                refused(state, "share(0, " + bad + ")", band -> band.share(0, bad), BAD);
                refused(state, "luck(0, " + bad + ", true)", band -> band.luck(0, bad, true), BAD);
                refused(state, "luck(0, " + bad + ", false)", band -> band.luck(0, bad, false), BAD);
            }
            refused(state, "luck(0, 11, true)", band -> band.luck(0, 11, true), BAD);
        }
    }

    private static void unknownOnes() {
        for (int none : new int[] {LEAST, -9, -1, 6, 7, 32, 64, MOST}) {
            refusedAlways("beast(" + none + ", 0)", band -> band.beast(none, 0), UNKNOWN);
            refusedAlways("gate(" + none + ", 0)", band -> band.gate(none, 0), UNKNOWN);
            refusedAlways("odds(" + none + ", true)", band -> band.odds(none, true), UNKNOWN);
            refusedAlways("odds(" + none + ", false)", band -> band.odds(none, false), UNKNOWN);
            refusedAlways("first(" + none + ")", band -> band.first(none), UNKNOWN);
            refusedAlways("share(" + none + ", 0)", band -> band.share(none, 0), UNKNOWN);
            refusedAlways("tell(" + none + ", true)", band -> band.tell(none, true), UNKNOWN);
            refusedAlways("tell(" + none + ", false)", band -> band.tell(none, false), UNKNOWN);
            refusedAlways("luck(" + none + ", 0, true)", band -> band.luck(none, 0, true), UNKNOWN);
            refusedAlways("keep(" + none + ")", band -> band.keep(none), UNKNOWN);
            refusedAlways("again(" + none + ")", band -> band.again(none), UNKNOWN);
        }
        refusedAlways("keep(2)", band -> band.keep(2), UNKNOWN);
        refusedAlways("again(2)", band -> band.again(2), UNKNOWN);
        refusedAlways("gate(3, 0)", band -> band.gate(3, 0), UNKNOWN);
    }

    private static void unknownIsToldAheadOfBadAndFull() {
        for (int none : new int[] {LEAST, -1, 6, MOST}) {
            refusedAlways("beast(" + none + ", -1)", band -> band.beast(none, -1), UNKNOWN);
            refusedAlways("gate(" + none + ", 3)", band -> band.gate(none, 3), UNKNOWN);
            refusedAlways("share(" + none + ", 100)", band -> band.share(none, 100), UNKNOWN);
            refusedAlways("luck(" + none + ", 11, true)", band -> band.luck(none, 11, true), UNKNOWN);
        }
        refused(State.END, "tell(6, true)", band -> band.tell(6, true), UNKNOWN);
    }

    private static void lateOnes() {
        refused(State.NEW, "road()", DumplingBand::road, LATE);
        refused(State.MIDDLE, "road()", DumplingBand::road, LATE);
        refused(State.NEW, "give()", DumplingBand::give, LATE);
        refused(State.END, "give()", DumplingBand::give, LATE);
        refused(State.NEW, "pass()", DumplingBand::pass, LATE);
        refused(State.END, "pass()", DumplingBand::pass, LATE);
        refused(State.NEW, "open()", DumplingBand::open, LATE);
        refused(State.START, "open()", DumplingBand::open, LATE);
        refused(State.MIDDLE, "open()", DumplingBand::open, LATE);
        refused(State.POOR, "open()", DumplingBand::open, LATE);
        refused(State.END, "open()", DumplingBand::open, LATE);
        refused(State.NEW, "undo()", DumplingBand::undo, LATE);
        refused(State.START, "undo()", DumplingBand::undo, LATE);
        refused(State.NEW, "again(0)", band -> band.again(0), LATE);
        refused(State.START, "again(1)", band -> band.again(1), LATE);
        refused(State.POOR, "again(0)", band -> band.again(0), LATE);
        refused(State.END, "again(0)", band -> band.again(0), LATE);
    }

    private static void fullOnes() {
        refused(State.POOR, "give()", DumplingBand::give, FULL);
        refused(State.END, "write(82)", band -> band.write('R'), FULL);
        refused(State.END, "tell(0, true)", band -> band.tell(0, true), FULL);
        refused(State.END, "tell(2, false)", band -> band.tell(2, false), FULL);
    }

    private static void onlyAsked(String name, Call call) {
        for (State state : State.values()) {
            DumplingBand band = in(state);
            long answer = call.on(band);
            due(state + ": " + name + " once more", call.on(band), answer);
            rowDue(state + ": behind " + name, allSeen(band), allSeen(in(state)));
        }
    }

    private static void whatIsAsked() {
        Map<String, Call> calls = new LinkedHashMap<>();
        calls.put("fault()", DumplingBand::fault);
        calls.put("about(5)", band -> band.about(5));
        calls.put("beast(2, 5)", band -> band.beast(2, 5));
        calls.put("gate(0, 2)", band -> band.gate(0, 2));
        calls.put("taking(0, 2)", band -> band.taking(0, 2));
        calls.put("taking(12, 1)", band -> band.taking(12, 1));
        calls.put("cheapest(1)", band -> band.cheapest(1));
        calls.put("farthest(2)", band -> band.farthest(2));
        calls.put("judged(8, 11223300)", band -> band.judged(8, 11223300));
        calls.put("judged(8, 22222222)", band -> band.judged(8, 22222222));
        calls.put("orders(15)", band -> band.orders(15));
        calls.put("lasts()", DumplingBand::lasts);
        calls.put("feeds()", DumplingBand::feeds);
        calls.put("odds(0, true)", band -> band.odds(0, true));
        calls.put("first(0)", band -> band.first(0));
        calls.put("boat(2)", band -> band.boat(2));
        calls.put("share(0, 99)", band -> band.share(0, 99));
        calls.put("envies(9)", band -> band.envies(9));
        calls.put("eaten(9, 1)", band -> band.eaten(9, 1));
        calls.put("luck(0, 5, true)", band -> band.luck(0, 5, true));
        calls.forEach(NothingChangesTest::onlyAsked);
    }

    private static void roamChangesTheSeedAlone() {
        for (int t = 0; t <= 10; t++) {
            int times = t;
            onlyAsked("roam(" + t + "), and THE SEED as it was", band -> {
                long seed = band.seed(0);
                band.seed(seed);
                int went = band.roam(times);
                band.seed(seed);
                return went;
            });
        }
    }
}
