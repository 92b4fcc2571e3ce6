import java.nio.charset.StandardCharsets;

/** Counts answers that are not as due. */
final class Checks {
    private int wrong;
    private int asked;
    private String about = "";

    void about(String what) {
        about = what;
    }

    void due(String call, long got, long want) {
        asked++;
        if (got != want) {
            wrong++;
            System.out.println(about + ": " + call + " answered " + got + ", due is " + want);
        }
    }

    /** All answers of one kind, in a row. */
    void rowDue(String calls, int[] got, int... want) {
        asked++;
        if (!java.util.Arrays.equals(got, want)) {
            wrong++;
            System.out.println(about + ": " + calls + " answered " + java.util.Arrays.toString(got)
                + ", due is " + java.util.Arrays.toString(want));
        }
    }

    int wrong() {
        return wrong;
    }

    int asked() {
        return asked;
    }

    void end() {
        System.out.println(wrong == 0 ? asked + " answers are as due" : wrong + " of " + asked + " are not as due");
        if (wrong != 0 || asked == 0) {
            System.exit(1);
        }
    }

    static DumplingBand onRoad(String text) {
        DumplingBand band = new DumplingBand();
        takeRoad(band, text);
        return band;
    }

    static int takeRoad(DumplingBand band, String text) {
        write(band, text);
        return band.road();
    }

    static void write(DumplingBand band, String text) {
        band.wipe();
        for (byte letter : text.getBytes(StandardCharsets.ISO_8859_1)) {
            band.write(letter & 255);
        }
    }

    static int faultOf(String text) {
        DumplingBand band = new DumplingBand();
        write(band, text);
        return band.fault();
    }

    static DumplingBand giveAll(DumplingBand band, int times) {
        for (int time = 0; time < times; time++) {
            band.give();
        }
        return band;
    }

    static int[] about(DumplingBand band) {
        int[] row = new int[12];
        for (int what = 0; what < 12; what++) {
            row[what] = band.about(what);
        }
        return row;
    }

    static int[] beast(DumplingBand band, int beast) {
        int[] row = new int[7];
        for (int what = 0; what < 7; what++) {
            row[what] = band.beast(beast, what);
        }
        return row;
    }
}
