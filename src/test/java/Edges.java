import java.lang.reflect.InvocationTargetException;
import java.lang.reflect.Method;
import java.lang.reflect.Modifier;
import java.util.Comparator;
import java.util.stream.Stream;

/** What the edge tests share: each method of theirs is a test of its own, told by its name. */
abstract class Edges {
    static final int UNKNOWN = -1, BAD = -2, LATE = -3, FULL = -4, NONE = -9;
    static final int LEAST = Integer.MIN_VALUE, MOST = Integer.MAX_VALUE;

    /** A PLAIN, a HALVED, an ENVIOUS one, a TRAITOR; 0 and 2 are ENEMIES; two GATES. */
    static final String FOUR = "R12B0230B1541B2112B3373E02G003G108";
    /** Six PLAIN ones of STRENGTH 9, SKILL 0, and PRICES 1 to 6. */
    static final String SIX = "R99B0190B0290B0390B0490B0590B0690";
    /** Six BEASTS, a GATE and nine pairs of ENEMIES: 64 bytes just. */
    static final String LONGEST = "R00B0110B0110B0110B0110B0110B0110G001E01E02E03E04E05E12E13E14E15";

    private static final Checks CHECKS = new Checks();

    /** Runs each static method that takes nothing as one test; one that asks nothing is a fault, too. */
    static void runAll(Class<? extends Edges> tests) {
        Stream.of(tests.getDeclaredMethods())
            .filter(method -> Modifier.isStatic(method.getModifiers()) && method.getParameterCount() == 0)
            .filter(method -> method.getReturnType() == void.class && !method.isSynthetic())
            .sorted(Comparator.comparing(Method::getName))
            .forEach(Edges::run);
        CHECKS.end();
    }

    private static void run(Method test) {
        CHECKS.about(test.getName());
        int before = CHECKS.asked();
        try {
            test.setAccessible(true);
            test.invoke(null);
        } catch (IllegalAccessException | InvocationTargetException thrown) {
            thrown.printStackTrace();
            CHECKS.due("a call that throws", 1, 0);
        }
        if (CHECKS.asked() == before) {
            CHECKS.due("answers asked", 0, 1);
        }
    }

    static void due(String call, long got, long want) {
        CHECKS.due(call, got, want);
    }

    static void rowDue(String calls, int[] got, int... want) {
        CHECKS.rowDue(calls, got, want);
    }

    static DumplingBand on(String text) {
        return Checks.onRoad(text);
    }

    static DumplingBand given(String text, int times) {
        return Checks.giveAll(on(text), times);
    }

    static void take(DumplingBand band, String text) {
        due("road " + text, Checks.takeRoad(band, text) >= 0 ? 1 : 0, 1);
    }

    static int[] about(DumplingBand band) {
        return Checks.about(band);
    }

    static DumplingBand passed(DumplingBand band, int times) {
        for (int time = 0; time < times; time++) {
            band.pass();
        }
        return band;
    }

    static DumplingBand slept(DumplingBand band, int times) {
        for (int time = 0; time < times; time++) {
            band.dusk();
        }
        return band;
    }

    static DumplingBand told(DumplingBand band, int times) {
        for (int time = 0; time < times; time++) {
            band.tell(0, true);
        }
        return band;
    }
}
