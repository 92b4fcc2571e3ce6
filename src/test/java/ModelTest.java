import java.util.Random;

/** Long runs of calls, drawn from fixed seeds: DumplingBand answers as PlainBand does. */
public final class ModelTest {
    private static final int RUNS = 400;
    private static final int CALLS = 512;

    private final Random random;
    private final Checks checks;
    private final DumplingBand band = new DumplingBand();
    private final PlainBand plain = new PlainBand();
    private int calls;

    private ModelTest(Checks checks, int run) {
        this.checks = checks;
        this.random = new Random(run);
        checks.about("run " + run);
    }

    public static void main(String[] args) {
        Checks checks = new Checks();
        for (int run = 0; run < RUNS && checks.wrong() == 0; run++) {
            ModelTest test = new ModelTest(checks, run);
            while (test.calls < CALLS && checks.wrong() == 0) {
                test.go();
            }
        }
        checks.end();
    }

    private void same(String call, long got, long want) {
        calls++;
        checks.due("call " + calls + ", " + call, got, want);
    }

    private void go() {
        if (calls == 0 || random.nextInt(60) == 0) {
            takeRoad();
        } else if (random.nextInt(100) < 35) {
            act();
        } else {
            ask();
        }
    }

    private void takeRoad() {
        same("wipe()", band.wipe(), plain.wipe());
        String text = random.nextInt(4) == 0 ? spoilt(roadText()) : roadText();
        for (int at = 0; at < text.length(); at++) {
            write(text.charAt(at));
        }
        same("fault()", band.fault(), plain.fault());
        same("road()", band.road(), plain.road());
        for (int what = 0; what < 12; what++) {
            about(what);
        }
    }

    private void write(int letter) {
        same("write(" + letter + ")", band.write(letter), plain.write(letter));
    }

    private void about(int what) {
        same("about(" + what + ")", band.about(what), plain.about(what));
    }

    /** PARTS in mixed order: GATES and ENEMIES come between BEASTS, too. */
    private String roadText() {
        StringBuilder text = new StringBuilder("R");
        int dumplings = random.nextInt(3) == 0 ? random.nextInt(100) : random.nextInt(25);
        text.append(dumplings / 10).append(dumplings % 10);
        int beasts = 1 + random.nextInt(6);
        int pairs = random.nextInt(7);
        int gates = random.nextInt(4);
        boolean[][] isPair = new boolean[6][6];
        int told = 0;
        while (told < beasts || pairs > 0 || gates > 0) {
            int part = random.nextInt(3);
            if (part == 0 && told < beasts) {
                text.append('B').append(random.nextInt(4)).append(1 + random.nextInt(random.nextBoolean() ? 9 : 3));
                text.append(1 + random.nextInt(9)).append(random.nextInt(random.nextBoolean() ? 4 : 2));
                told++;
            } else if (part == 1 && pairs > 0 && told > 0) {
                appendPair(text, isPair, told);
                pairs--;
            } else if (part == 2 && gates > 0) {
                int strength = 1 + random.nextInt(random.nextInt(4) == 0 ? 54 : 15);
                text.append('G').append(random.nextInt(2)).append(strength / 10).append(strength % 10);
                gates--;
            }
        }
        return text.toString();
    }

    private void appendPair(StringBuilder text, boolean[][] isPair, int told) {
        int one = random.nextInt(told);
        int other = random.nextInt(told);
        if (one != other && !isPair[one][other]) {
            isPair[one][other] = true;
            isPair[other][one] = true;
            text.append('E').append(one).append(other);
        }
    }

    /** A byte changed, or put in, or all cut behind it. */
    private String spoilt(String text) {
        int at = random.nextInt(text.length());
        String letters = "RBEG0123456789";
        char letter = random.nextInt(8) == 0 ? (char) random.nextInt(256) : letters.charAt(random.nextInt(14));
        switch (random.nextInt(3)) {
            case 0: return text.substring(0, at);
            case 1: return text.substring(0, at) + letter + text.substring(at);
            default: return text.substring(0, at) + letter + text.substring(at + 1);
        }
    }

    private void act() {
        switch (random.nextInt(12)) {
            case 0: case 1: case 2: case 3: same("give()", band.give(), plain.give()); break;
            case 4: same("pass()", band.pass(), plain.pass()); break;
            case 5: same("dusk()", band.dusk(), plain.dusk()); break;
            case 6: same("open()", band.open(), plain.open()); break;
            case 7: case 8: same("undo()", band.undo(), plain.undo()); break;
            case 9: keep(random.nextInt(2)); break;
            case 10: again(random.nextInt(2)); break;
            default: oddAct(); break;
        }
        about(1);
        about(2);
        about(5);
        about(8);
    }

    private void keep(int slot) {
        same("keep(" + slot + ")", band.keep(slot), plain.keep(slot));
    }

    private void again(int slot) {
        same("again(" + slot + ")", band.again(slot), plain.again(slot));
    }

    private void oddAct() {
        switch (random.nextInt(6)) {
            case 0: write(random.nextInt(260) - 2); break;
            case 1: keep(near(1)); break;
            case 2: again(near(1)); break;
            case 3: same("road()", band.road(), plain.road()); break;
            case 4: same("fault()", band.fault(), plain.fault()); break;
            default: roamFrom(random.nextLong()); break;
        }
    }

    private void roamFrom(long seed) {
        same("seed(" + seed + ")", band.seed(seed), plain.seed(seed));
        roam(near(10));
    }

    private void roam(int t) {
        same("roam(" + t + ")", band.roam(t), plain.roam(t));
    }

    /** Mostly 0 .. most, seldom just outside, more seldom anything. */
    private int near(int most) {
        int kind = random.nextInt(30);
        if (kind == 0) {
            return random.nextInt();
        }
        return kind < 3 ? (random.nextBoolean() ? -1 : most + 1) : random.nextInt(most + 1);
    }

    private void ask() {
        int what = random.nextInt(27);
        if (what < 9) {
            askOfTakings(what);
        } else if (what < 18) {
            askOfGates(what);
        } else {
            askOfEaten(what);
        }
    }

    private void askOfTakings(int what) {
        switch (what) {
            case 0: about(near(11)); break;
            case 1: {
                int beast = near(5);
                int of = near(6);
                same("beast(" + beast + ", " + of + ")", band.beast(beast, of), plain.beast(beast, of));
                break;
            }
            case 2: case 3: {
                int set = near(63);
                int of = near(2);
                same("taking(" + set + ", " + of + ")", band.taking(set, of), plain.taking(set, of));
                break;
            }
            case 4: {
                int of = near(1);
                same("cheapest(" + of + ")", band.cheapest(of), plain.cheapest(of));
                break;
            }
            case 5: {
                int of = near(2);
                same("farthest(" + of + ")", band.farthest(of), plain.farthest(of));
                break;
            }
            case 6: judged(); break;
            case 7: {
                int set = near(63);
                same("orders(" + set + ")", band.orders(set), plain.orders(set));
                break;
            }
            default:
                same("lasts()", band.lasts(), plain.lasts());
                same("feeds()", band.feeds(), plain.feeds());
                break;
        }
    }

    private void judged() {
        int n = near(8);
        int row = near(9);
        if (random.nextInt(8) != 0) {
            row = 0;
            for (int figure = 0; figure < Math.min(n, 9); figure++) {
                row = 10 * row + random.nextInt(random.nextInt(20) == 0 ? 10 : 4);
            }
        }
        same("judged(" + n + ", " + row + ")", band.judged(n, row), plain.judged(n, row));
    }

    private void askOfGates(int what) {
        int gate = near(2);
        boolean upper = random.nextBoolean();
        switch (what) {
            case 9: {
                int of = near(2);
                same("gate(" + gate + ", " + of + ")", band.gate(gate, of), plain.gate(gate, of));
                break;
            }
            case 10: case 11:
                same("odds(" + gate + ", " + upper + ")", band.odds(gate, upper), plain.odds(gate, upper));
                break;
            case 12: same("first(" + gate + ")", band.first(gate), plain.first(gate)); break;
            case 13: {
                int k = near(4);
                same("boat(" + k + ")", band.boat(k), plain.boat(k));
                break;
            }
            case 14: {
                int beast = near(5);
                int t = near(99);
                same("share(" + beast + ", " + t + ")", band.share(beast, t), plain.share(beast, t));
                break;
            }
            case 15: {
                int t = random.nextBoolean() ? near(20) : near(99);
                same("envies(" + t + ")", band.envies(t), plain.envies(t));
                break;
            }
            default: {
                int x = near(10);
                String call = "luck(" + gate + ", " + x + ", " + upper + ")";
                same(call, band.luck(gate, x, upper), plain.luck(gate, x, upper));
                break;
            }
        }
    }

    private void askOfEaten(int what) {
        switch (what) {
            case 18: case 19: case 20: case 21: {
                int n = random.nextBoolean() ? near(20) : near(60);
                int of = near(1);
                same("eaten(" + n + ", " + of + ")", band.eaten(n, of), plain.eaten(n, of));
                break;
            }
            case 22: case 23: {
                int beast = near(5);
                boolean ate = random.nextBoolean();
                same("tell(" + beast + ", " + ate + ")", band.tell(beast, ate), plain.tell(beast, ate));
                break;
            }
            case 24: same("untell()", band.untell(), plain.untell()); break;
            default: roam(near(10)); break;
        }
    }
}
