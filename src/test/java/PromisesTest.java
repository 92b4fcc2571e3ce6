/** Each promise of the document by hand: ordinary inputs, the edges it names, wrong inputs. */
public final class PromisesTest {
    private static final int UNKNOWN = -1, BAD = -2, LATE = -3, FULL = -4, NONE = -9;
    private static final int LEAST = Integer.MIN_VALUE, MOST = Integer.MAX_VALUE;

    /** A PLAIN, a HALVED, an ENVIOUS one, a TRAITOR; 0 and 2 are ENEMIES; two GATES. */
    private static final String FOUR = "R12B0230B1541B2112B3373E02G003G108";
    /** Six of STRENGTH 9, and the 15 pairs can't all be told in 64 bytes. */
    private static final String SIX = "R99B0190B0290B0390B0490B0590B0690";

    private static final Checks CHECKS = new Checks();

    public static void main(String[] args) {
        promise1();
        promise2();
        promise3();
        promise4();
        promise4Parts();
        promise4Enemies();
        promise5();
        promise6();
        promise7();
        promise8();
        promise9();
        promise9Quarrels();
        promise10();
        promise11();
        promise12();
        promise13();
        promise14();
        promise15();
        promise16();
        promise17();
        promise18();
        promise19();
        promise20();
        promise21();
        promise22();
        promise23();
        promise24();
        promise25();
        promise26();
        promise27();
        promise28();
        promise29();
        promise30();
        promise31();
        promise32();
        promise33();
        CHECKS.end();
    }

    private static void promise(int number) {
        CHECKS.about("promise " + number);
    }

    private static void due(String call, long got, long want) {
        CHECKS.due(call, got, want);
    }

    private static DumplingBand on(String text) {
        return Checks.onRoad(text);
    }

    private static DumplingBand given(String text, int times) {
        return Checks.giveAll(Checks.onRoad(text), times);
    }

    private static void promise1() {
        promise(1);
        DumplingBand band = new DumplingBand();
        CHECKS.rowDue("about", Checks.about(band), 0, 0, 0, 0, 0, NONE, 0, 0, 0, 0, 0, 0);
        due("seed", band.seed(1), 0);
        due("beast", band.beast(0, 0), UNKNOWN);
        due("gate", band.gate(0, 0), UNKNOWN);
        due("again", band.again(0), LATE);
        due("undo", band.undo(), LATE);
        due("give", band.give(), LATE);
        DumplingBand other = on(FOUR);
        other.give();
        due("another object's BEASTS", new DumplingBand().about(0), 0);
        due("this one's", band.about(0), 0);
    }

    private static void promise2() {
        promise(2);
        DumplingBand band = new DumplingBand();
        due("write(0)", band.write(0), 1);
        due("write(255)", band.write(255), 2);
        due("write(-1)", band.write(-1), BAD);
        due("write(256)", band.write(256), BAD);
        due("write(least)", band.write(LEAST), BAD);
        due("write(most)", band.write(MOST), BAD);
        due("refused: nothing comes", band.about(10), 2);
        for (int length = 3; length <= 64; length++) {
            due("write", band.write('B'), length);
        }
        due("the 65th", band.write('B'), FULL);
        due("BAD is told ahead of FULL", band.write(256), BAD);
        due("length", band.about(10), 64);
        band.wipe();
        due("behind wipe", band.write('R'), 1);
        due("THE ROAD is not changed", band.about(0), 0);
    }

    private static void promise3() {
        promise(3);
        DumplingBand band = on(FOUR);
        due("wipe", band.wipe(), 34);
        due("once more", band.wipe(), 0);
        due("length", band.about(10), 0);
        due("FAULT", band.fault(), 0);
        due("THE ROAD stays", band.about(0), 4);
    }

    private static void fault(String text, int want) {
        due("fault of '" + text + "'", Checks.faultOf(text), want);
    }

    private static void promise4() {
        promise(4);
        fault("", 0);
        fault("r", 0);
        fault("B0110", 0);
        fault("000", 0);
        fault("0000", 0);
        fault("00R", 0);
        fault("R", 1);
        fault("Rx", 1);
        fault("R0", 2);
        fault("R0/", 2);
        fault("R0:", 2);
        fault("R00", NONE);
        fault("R99", NONE);
        fault("R000", 3);
        fault("R00R", 3);
        fault("R00\u0000", 3);
        fault("R00\u00ff", 3);
        fault("R00b", 3);
        fault(FOUR, NONE);
        fault(FOUR + "B", 35);
        fault(FOUR + " ", 34);
        DumplingBand band = new DumplingBand();
        Checks.write(band, FOUR);
        due("once", band.fault(), NONE);
        due("and again", band.fault(), NONE);
        due("BEASTS: THE ROAD is not made by it", band.about(0), 0);
        band.write('x');
        due("one byte more", band.fault(), 34);
    }

    private static void promise4Parts() {
        fault("R00B", 4);
        fault("R00B0", 5);
        fault("R00B01", 6);
        fault("R00B011", 7);
        fault("R00B0110", NONE);
        fault("R00B3993", NONE);
        fault("R00B4", 4);
        fault("R00B/", 4);
        fault("R00B00", 5);
        fault("R00B0:", 5);
        fault("R00B010", 6);
        fault("R00B01:", 6);
        fault("R00B0114", 7);
        fault("R00B011/", 7);
        fault("R00B01100", 8);
        fault("R00G", 4);
        fault("R00G0", 5);
        fault("R00G00", 6);
        fault("R00G001", NONE);
        fault("R00G354", NONE);
        fault("R00G009", NONE);
        fault("R00G010", NONE);
        fault("R00G149", NONE);
        fault("R00G250", NONE);
        fault("R00G4", 4);
        fault("R00G06", 5);
        fault("R00G000", 6);
        fault("R00G055", 6);
        fault("R00G059", 6);
        fault("R00G001G101G201", NONE);
        fault("R00G001G101G201G", 15);
        fault("R00G001G101G201G301", 15);
        fault("R00G001B0110G101B0110", NONE);
        fault(SIX, NONE);
        fault(SIX + "B", 33);
        fault(SIX + "G001", NONE);
        String full = SIX + "G001G001G001E01E02E03E04E";
        fault(full.substring(0, 58), 58);
        String longest = SIX + "G001G001E01E02E03E04E05E12E13E";
        due("its length", longest.length(), 63);
        fault(longest + "1", 64);
        fault(longest + "6", 63);
    }

    private static void promise4Enemies() {
        fault("R00E", 3);
        fault("R00B0110E", 8);
        fault("R00B0110E01", 8);
        String two = "R00B0110B0110";
        fault(two + "E", 14);
        fault(two + "E0", 15);
        fault(two + "E01", NONE);
        fault(two + "E10", NONE);
        fault(two + "E00", 15);
        fault(two + "E2", 14);
        fault(two + "E02", 15);
        fault(two + "E/", 14);
        fault(two + "E0/", 15);
        // bytes that a shift by them would take for figures
        fault(two + "EP1", 14);
        fault(two + "E\u00101", 14);
        fault(two + "E0Q", 15);
        fault(two + "E0\u0011", 15);
        fault(two + "E01E", 16);
        fault(two + "E10E", 16);
        String three = two + "B0110";
        fault(three + "E01E", 22);
        fault(three + "E01E10", 23);
        fault(three + "E01E01", 23);
        fault(three + "E01E12", NONE);
        fault(three + "E01E02E0", 25);
        fault(three + "E01E02E1", 26);
        fault(three + "E01E02E10", 26);
        fault(three + "E01E02E21", NONE);
        fault(three + "E01E02E21E", 27);
        fault(two + "E01B0110E02", NONE);
        fault(two + "E02B0110", 15);
        fault(SIX + "E56", 35);
        fault(SIX + "E6", 34);
        fault(SIX + "E54", NONE);
    }

    private static void promise5() {
        promise(5);
        DumplingBand band = new DumplingBand();
        due("no TEXT", band.road(), LATE);
        due("road", Checks.takeRoad(band, FOUR), 4);
        CHECKS.rowDue("about", Checks.about(band), 4, 12, 0, 0, 0, 0, 2, 0, 0, 0, 34, 0);
        due("no BEASTS", Checks.takeRoad(band, "R07"), 0);
        CHECKS.rowDue("about R07", Checks.about(band), 0, 7, 0, 0, 0, NONE, 0, 0, 0, 0, 3, 0);
        Checks.takeRoad(band, FOUR);
        band.give();
        band.open();
        band.dusk();
        band.keep(0);
        band.keep(1);
        band.tell(2, true);
        band.seed(77);
        band.write('B');
        due("a FAULT", band.road(), LATE);
        CHECKS.rowDue("nothing is changed", Checks.about(band), 4, 9, 1, 3, 1, 1, 2, 1, 3, 1, 35, 1);
        due("what was kept is not gone", band.again(1), 1);
        band.dusk();
        due("six", Checks.takeRoad(band, SIX), 6);
        CHECKS.rowDue("all is new but TOLD", Checks.about(band), 6, 99, 0, 0, 0, 0, 0, 0, 0, 1, 33, 0);
        due("what was kept is gone", band.again(0), LATE);
        due("and in the other", band.again(1), LATE);
        due("nothing to undo", band.undo(), LATE);
        due("THE SEED stays", band.seed(0), 77);
        due("ENEMIES of the old ROAD are gone", band.beast(2, 4), 0);
        due("the same TEXT again", band.road(), 6);
        band.give();
        due("made anew", band.road(), 6);
        due("THE BAND", band.about(2), 0);
        due("DUMPLINGS", band.about(1), 99);
    }

    private static void promise6() {
        promise(6);
        DumplingBand band = given(FOUR, 2);
        band.open();
        band.dusk();
        band.dusk();
        band.tell(0, false);
        CHECKS.rowDue("about", Checks.about(band), 4, 3, 3, 7, 2, 2, 2, 1, 5, 1, 34, 3);
        due("about(-1)", band.about(-1), BAD);
        due("about(12)", band.about(12), BAD);
        due("about(least)", band.about(LEAST), BAD);
        due("about(most)", band.about(MOST), BAD);
        band.pass();
        band.pass();
        due("nobody is next", band.about(5), NONE);
        due("SKILLS that two have", given("R09B0112B0112B0113", 3).about(11), 12);
        due("SKILL 0 alone", given("R09B0110", 1).about(11), 1);
    }

    private static void promise7() {
        promise(7);
        DumplingBand band = on(FOUR);
        CHECKS.rowDue("beast 0", Checks.beast(band, 0), 0, 2, 3, 0, 4, 2, NONE);
        CHECKS.rowDue("beast 1", Checks.beast(band, 1), 1, 5, 4, 1, 0, 3, NONE);
        CHECKS.rowDue("beast 2", Checks.beast(band, 2), 2, 1, 1, 2, 1, 1, NONE);
        CHECKS.rowDue("beast 3", Checks.beast(band, 3), 3, 3, 7, 3, 0, 3, NONE);
        Checks.giveAll(band, 2);
        due("given 0", band.beast(0, 6), 2);
        due("given 1, HALVED, up", band.beast(1, 6), 3);
        due("ENVIOUS now", band.beast(2, 5), 3);
        due("TRAITOR asks its PRICE", band.beast(3, 5), 3);
        due("PLAIN of THE BAND asks as ever", band.beast(0, 5), 2);
        band.give();
        due("who left was given nothing", band.beast(2, 6), NONE);
        due("the other kept what it was given", band.beast(0, 6), 2);
        due("beast -1", band.beast(-1, 0), UNKNOWN);
        due("beast 4", band.beast(4, 0), UNKNOWN);
        due("beast most", band.beast(MOST, 0), UNKNOWN);
        due("UNKNOWN ahead of BAD", band.beast(4, 7), UNKNOWN);
        due("what 7", band.beast(0, 7), BAD);
        due("what -1", band.beast(3, -1), BAD);
        due("what least", band.beast(3, LEAST), BAD);
        promise7Asks();
    }

    private static void promise7Asks() {
        due("half of 1, up", on("R09B1110").beast(0, 5), 1);
        due("half of 8", on("R09B1810").beast(0, 5), 4);
        due("half of 9, up", on("R09B1910").beast(0, 5), 5);
        DumplingBand envied = given("R50B0710B2310B0910", 2);
        due("ENVIOUS was given more than its PRICE", envied.beast(1, 6), 7);
        due("ENVIOUS asks no less than itself was given", envied.beast(1, 5), 7);
        DumplingBand more = given("R50B0310B2510", 1);
        due("ENVIOUS asks its PRICE if that is more", more.beast(1, 5), 5);
        DumplingBand half = given("R50B1910B2110", 1);
        due("ENVIOUS of what one was given, not of PRICE", half.beast(1, 5), 5);
        DumplingBand gone = given("R02B0210B2110", 1);
        gone.dusk();
        due("ENVIOUS of nobody who left", gone.beast(1, 5), 1);
    }

    private static void promise8() {
        promise(8);
        DumplingBand band = given(FOUR, 1);
        CHECKS.rowDue("gate 0", new int[] {band.gate(0, 0), band.gate(0, 1), band.gate(0, 2)}, 0, 3, 0);
        band.open();
        CHECKS.rowDue("gate 0 is open", new int[] {band.gate(0, 0), band.gate(0, 1), band.gate(0, 2)}, 0, 3, 1);
        CHECKS.rowDue("gate 1", new int[] {band.gate(1, 0), band.gate(1, 1), band.gate(1, 2)}, 1, 8, 0);
        due("strength 54", on("R00G354").gate(0, 1), 54);
        due("gate -1", band.gate(-1, 0), UNKNOWN);
        due("gate 2", band.gate(2, 0), UNKNOWN);
        due("gate least", band.gate(LEAST, 0), UNKNOWN);
        due("UNKNOWN ahead of BAD", band.gate(2, 3), UNKNOWN);
        due("what 3", band.gate(0, 3), BAD);
        due("what -1", band.gate(0, -1), BAD);
    }

    private static void promise9() {
        promise(9);
        DumplingBand band = on("R09B0410B1710B0210");
        due("give", band.give(), 0);
        due("DUMPLINGS", band.about(1), 5);
        due("THE BAND", band.about(2), 1);
        due("next", band.about(5), 1);
        due("ACTS", band.about(8), 1);
        due("give HALVED", band.give(), 0);
        due("DUMPLINGS", band.about(1), 1);
        due("not so many", band.give(), FULL);
        CHECKS.rowDue("refused", Checks.about(band), 3, 1, 3, 2, 0, 2, 0, 0, 2, 0, 18, 1);
        band.pass();
        due("nobody", band.give(), LATE);
        due("just enough", given("R05B0510", 1).about(2), 1);
        due("one too few", on("R04B0510").give(), FULL);
        due("none", on("R00B0110").give(), FULL);
        DumplingBand envy = given("R11B0710B2310", 1);
        due("too few for the ENVIOUS", on("R11B2310").give(), 0);
        due("too few for what it ASKS", envy.give(), FULL);
        envy = given("R14B0710B2310", 2);
        due("enough for it", envy.about(1), 0);
    }

    private static void promise9Quarrels() {
        DumplingBand band = on("R40B0231B0332B2113B3243B1953B0561E01E23E45E05");
        due("give 0", band.give(), 0);
        due("like STRENGTH: the new one leaves", band.give(), 2);
        due("give 2", band.give(), 0);
        due("the one of THE BAND leaves", band.give(), 4);
        due("give 4", band.give(), 0);
        due("two leave", band.give(), 17);
        due("THE BAND", band.about(2), 40);
        due("no DUMPLINGS come back", band.about(1), 21);
        DumplingBand first = on("R40B0130B0150B0140E20E21");
        Checks.giveAll(first, 2);
        due("0 leaves, then the new one", first.give(), 5);
        due("1 is left", first.about(2), 2);
        DumplingBand second = on("R40B0150B0130B0140E20E21");
        Checks.giveAll(second, 2);
        due("the new one leaves first, 1 has no quarrel", second.give(), 4);
        due("both are left", second.about(2), 3);
        DumplingBand friends = given("R40B0190B0110B0150E02", 2);
        friends.undo();
        friends.pass();
        due("only ENEMIES quarrel", friends.give(), 4);
        DumplingBand passed = on("R40B0190B0110E01");
        passed.pass();
        due("who passed does not quarrel", passed.give(), 0);
    }

    private static void promise10() {
        promise(10);
        DumplingBand band = on(FOUR);
        due("pass 0", band.pass(), 1);
        due("pass 1", band.pass(), 2);
        due("pass 2", band.pass(), 3);
        due("pass 3", band.pass(), NONE);
        CHECKS.rowDue("nobody came", Checks.about(band), 4, 12, 0, 0, 0, NONE, 2, 0, 4, 0, 34, 0);
        due("nobody is next", band.pass(), LATE);
        due("ACTS", band.about(8), 4);
        due("no ROAD", new DumplingBand().pass(), LATE);
    }

    private static void promise11() {
        promise(11);
        DumplingBand band = given("R08B0210B0110B3110B0210", 4);
        due("two eat, a TRAITOR and one with none leave", band.dusk(), 12);
        CHECKS.rowDue("behind it", Checks.about(band), 4, 0, 3, 2, 1, NONE, 0, 0, 5, 0, 23, 1);
        due("all leave", band.dusk(), 3);
        due("nobody", band.dusk(), 0);
        due("THE DAY", band.about(4), 3);
        DumplingBand traitor = given("R09B3110B0110", 2);
        due("a TRAITOR leaves though it ate", traitor.dusk(), 1);
        due("it ate", traitor.about(1), 5);
        due("nobody", new DumplingBand().dusk(), 0);
        DumplingBand kinds = given("R90B0110B1110B2110B3110", 4);
        due("only the TRAITOR", kinds.dusk(), 8);
        due("who is next is not changed", on(FOUR).about(5), 0);
        DumplingBand hungry = given("R04B3110B0110B0110", 3);
        due("by number: the TRAITOR eats the last one", hungry.dusk(), 7);
    }

    private static void promise12() {
        promise(12);
        DumplingBand band = on(FOUR);
        due("nobody", band.open(), LATE);
        band.give();
        due("the first, STRENGTH as wanted", band.open(), 0);
        due("no SKILL for the second", band.open(), LATE);
        band.give();
        due("the SKILL, too little STRENGTH", band.open(), LATE);
        band.pass();
        band.give();
        due("STRENGTH of all together", band.open(), 1);
        due("all are", band.open(), LATE);
        due("open", band.about(7), 2);
        due("ACTS", band.about(8), 6);
        due("no GATE", given("R09B0110", 1).open(), LATE);
        due("one too little", given("R09B0150G006", 1).open(), LATE);
        due("just so", given("R09B0160G006", 1).open(), 0);
        due("strong, without SKILL", given("R09B0191G002", 1).open(), LATE);
        DumplingBand order = given("R09B0151G009G101", 1);
        due("only the first that is not", order.open(), LATE);
        DumplingBand stays = given("R01B0190G009G009", 1);
        due("open", stays.open(), 0);
        stays.dusk();
        due("it is open still", stays.gate(0, 2), 1);
        due("the next is not", stays.open(), LATE);
    }

    private static void promise13() {
        promise(13);
        DumplingBand band = on(FOUR);
        band.tell(1, true);
        band.seed(9);
        int[] start = Checks.about(band);
        band.give();
        band.give();
        int[] two = Checks.about(band);
        band.give();
        due("undo a quarrel", band.undo(), 2);
        CHECKS.rowDue("as it was", Checks.about(band), two);
        due("what 1 was given", band.beast(1, 6), 3);
        band.open();
        due("undo open", band.undo(), 2);
        due("shut", band.gate(0, 2), 0);
        band.pass();
        due("undo pass", band.undo(), 2);
        due("next", band.about(5), 2);
        band.dusk();
        due("undo dusk", band.undo(), 2);
        CHECKS.rowDue("as it was", Checks.about(band), two);
        due("undo", band.undo(), 1);
        due("undo", band.undo(), 0);
        CHECKS.rowDue("as at first", Checks.about(band), start);
        due("none", band.undo(), LATE);
        due("THE SEED is no ACT's", band.seed(0), 9);
        promise13Row();
        DumplingBand hungry = given("R03B0110B0210", 2);
        due("both leave", hungry.dusk(), 3);
        hungry.undo();
        due("they have come back", hungry.about(2), 3);
        due("with what they were given", hungry.beast(1, 6), 2);
    }

    private static void promise13Row() {
        DumplingBand band = on(SIX);
        for (int day = 1; day <= 20; day++) {
            band.dusk();
            due("ACTS", band.about(8), Math.min(day, 14));
        }
        for (int left = 13; left >= 7; left--) {
            due("undo", band.undo(), left);
        }
        due("THE DAY", band.about(4), 13);
        for (int act = 8; act <= 17; act++) {
            band.dusk();
        }
        for (int left = 13; left >= 0; left--) {
            due("undo", band.undo(), left);
            due("THE DAY", band.about(4), left + 9);
        }
        due("what is forgotten is not undone", band.undo(), LATE);
        due("THE DAY", band.about(4), 9);
    }

    private static void promise14() {
        promise(14);
        DumplingBand band = given(FOUR, 2);
        CHECKS.rowDue("none of them", takingRow(band, 0), 0, 3, 1);
        CHECKS.rowDue("2", takingRow(band, 4), 3, 3, 1);
        CHECKS.rowDue("3", takingRow(band, 8), 3, 11, 2);
        CHECKS.rowDue("both", takingRow(band, 12), 6, 11, 2);
        CHECKS.rowDue("one of the past", takingRow(band, 1), BAD, BAD, BAD);
        CHECKS.rowDue("one that there is not", takingRow(band, 16), BAD, BAD, BAD);
        CHECKS.rowDue("-1", takingRow(band, -1), BAD, BAD, BAD);
        CHECKS.rowDue("least", takingRow(band, LEAST), BAD, BAD, BAD);
        CHECKS.rowDue("64", takingRow(band, 64), BAD, BAD, BAD);
        due("what 3", band.taking(0, 3), BAD);
        due("what -1", band.taking(0, -1), BAD);
        CHECKS.rowDue("nothing is changed", Checks.about(band), 4, 7, 3, 7, 0, 2, 2, 0, 2, 0, 34, 3);
        DumplingBand poor = on("R05B0310B0310B0210");
        CHECKS.rowDue("too dear", takingRow(poor, 3), NONE, NONE, NONE);
        CHECKS.rowDue("just enough", takingRow(poor, 5), 5, 5, 0);
        due("BAD ahead of NONE", poor.taking(3, 3), BAD);
        DumplingBand open = given("R09B0190G005G009G010", 1);
        due("as many as can be", open.taking(0, 2), 2);
        open.open();
        due("those open count", open.taking(0, 2), 2);
        open.dusk();
        DumplingBand left = given("R01B0190G005G009", 1);
        left.open();
        left.dusk();
        CHECKS.rowDue("a GATE stays open", takingRow(left, 0), 0, 0, 1);
        DumplingBand all = on(SIX);
        CHECKS.rowDue("all six", takingRow(all, 63), 21, 63, 0);
        DumplingBand order = given("R09B0151G009G101", 1);
        due("the second waits for the first", order.taking(0, 2), 0);
        due("what ENVIOUS asks by who came ahead", given("R50B0710B2110", 1).taking(2, 0), 7);
        due("the past is not of it", given(SIX, 6).taking(0, 1), 63);
    }

    private static int[] takingRow(DumplingBand band, int set) {
        return new int[] {band.taking(set, 0), band.taking(set, 1), band.taking(set, 2)};
    }

    private static int[] cheapestRow(DumplingBand band) {
        return new int[] {band.cheapest(0), band.cheapest(1)};
    }

    private static int[] farthestRow(DumplingBand band) {
        return new int[] {band.farthest(0), band.farthest(1), band.farthest(2)};
    }

    private static void promise15() {
        promise(15);
        DumplingBand band = on(FOUR);
        CHECKS.rowDue("0, 1 and 3", cheapestRow(band), 8, 11);
        CHECKS.rowDue("nothing is changed", Checks.about(band), 4, 12, 0, 0, 0, 0, 2, 0, 0, 0, 34, 0);
        Checks.giveAll(band, 2);
        CHECKS.rowDue("3", cheapestRow(band), 3, 8);
        due("what 2", band.cheapest(2), BAD);
        due("what -1", band.cheapest(-1), BAD);
        CHECKS.rowDue("no GATE", cheapestRow(on(SIX)), 0, 0);
        CHECKS.rowDue("none", cheapestRow(on("R09B0110G002")), NONE, NONE);
        due("BAD ahead of NONE", on("R09B0110G002").cheapest(2), BAD);
        CHECKS.rowDue("too dear", cheapestRow(on("R08B0990G002")), NONE, NONE);
        CHECKS.rowDue("of like ones the least", cheapestRow(on("R09B0110B0220B0220G002")), 2, 2);
        CHECKS.rowDue("less COST, more bits", cheapestRow(on("R09B0320B0310B0220G002")), 2, 4);
        CHECKS.rowDue("two for less than one", cheapestRow(on("R09B0920B0110B0110G002")), 2, 6);
        DumplingBand open = given("R09B0120G002", 1);
        open.open();
        open.dusk();
        CHECKS.rowDue("all are open", cheapestRow(open), 0, 0);
        CHECKS.rowDue("all of them", cheapestRow(on("R09B0110B0110G002")), 2, 3);
        CHECKS.rowDue("ENEMIES are of no use together", cheapestRow(on("R09B0120B0110B0110E01G003")), 2, 5);
    }

    private static void promise16() {
        promise(16);
        DumplingBand band = on(FOUR);
        CHECKS.rowDue("both GATES", farthestRow(band), 2, 8, 11);
        CHECKS.rowDue("nothing is changed", Checks.about(band), 4, 12, 0, 0, 0, 0, 2, 0, 0, 0, 34, 0);
        Checks.giveAll(band, 2);
        CHECKS.rowDue("3", farthestRow(band), 2, 3, 8);
        due("what 3", band.farthest(3), BAD);
        due("what -1", band.farthest(-1), BAD);
        CHECKS.rowDue("no GATE can be", farthestRow(on("R09B0110G002")), 0, 0, 0);
        CHECKS.rowDue("one of two", farthestRow(on("R09B0920B0120B0120G002G005")), 1, 1, 2);
        CHECKS.rowDue("the dear one", farthestRow(on("R09B0120B0970G002G003")), 2, 9, 2);
        CHECKS.rowDue("no ROAD", farthestRow(new DumplingBand()), 0, 0, 0);
        DumplingBand open = given("R03B0120B0990G002G009", 1);
        open.open();
        open.dusk();
        open.dusk();
        CHECKS.rowDue("one is open", farthestRow(open), 1, 0, 0);
    }

    private static void promise17() {
        promise(17);
        DumplingBand band = on(FOUR);
        due("pass, give, dusk, no GATE", band.judged(4, 123), 3);
        due("give, GATE", band.judged(2, 13), NONE);
        due("leading 0 is PASSED", band.judged(2, 3), 1);
        due("5 x PASSED", band.judged(5, 0), 4);
        due("4 x PASSED", band.judged(4, 0), NONE);
        due("4 x PASSED, a DUSK", band.judged(5, 2), NONE);
        due("nobody to give to", band.judged(5, 1), 4);
        due("8 DUSKS", band.judged(8, 22222222), NONE);
        due("no such figure: 4", band.judged(1, 4), 0);
        due("no such figure: 9", band.judged(3, 229), 2);
        due("of two faults the first", band.judged(3, 495), 0);
        due("8 figures", band.judged(8, 99999999), 0);
        CHECKS.rowDue("nothing is changed", Checks.about(band), 4, 12, 0, 0, 0, 0, 2, 0, 0, 0, 34, 0);
        due("n 0", band.judged(0, 0), BAD);
        due("n 9", band.judged(9, 0), BAD);
        due("n least", band.judged(LEAST, 0), BAD);
        due("row -1", band.judged(3, -1), BAD);
        due("row of 2 for 1", band.judged(1, 10), BAD);
        due("row of 9 for 8", band.judged(8, 100000000), BAD);
        due("row most", band.judged(8, MOST), BAD);
        due("row least", band.judged(8, LEAST), BAD);
        DumplingBand poor = on("R03B0110B0110B0110G003");
        due("hungry ones leave", poor.judged(8, 11123222), 4);
        due("all come", poor.judged(4, 1113), NONE);
        due("both GATES", on(FOUR).judged(7, 1130133), 6);
        due("too few DUMPLINGS", on("R03B0210B0210").judged(2, 11), 1);
        due("from where it is", given(FOUR, 4).judged(1, 1), 0);
    }

    private static void promise18() {
        promise(18);
        DumplingBand band = on(FOUR);
        due("none of them", band.orders(0), 1);
        due("0, 1", band.orders(3), 2);
        due("2 must come first", band.orders(7), 2);
        due("all", band.orders(15), 6);
        due("2 alone", band.orders(4), 1);
        due("16", band.orders(16), BAD);
        due("-1", band.orders(-1), BAD);
        due("least", band.orders(LEAST), BAD);
        due("64", band.orders(64), BAD);
        due("six", on(SIX).orders(63), 720);
        due("ENVIOUS of a like PRICE", on("R00B2310B0310").orders(3), 2);
        due("ENVIOUS of half a PRICE", on("R00B2310B1510").orders(3), 2);
        due("ENVIOUS of half a PRICE, up", on("R00B2210B1510").orders(3), 1);
        due("two ENVIOUS", on("R00B2310B2510").orders(3), 1);
        due("two ENVIOUS of like PRICE", on("R00B2310B2310").orders(3), 2);
        due("rising", on("R00B2110B2210B2310B2410B2510B2610").orders(63), 1);
        due("quarrels do not count", on("R00B0510B2190E01").orders(3), 1);
        due("those of the past, too", given(FOUR, 4).orders(15), 6);
        due("THE BAND does not count", given("R09B0510B2110", 1).orders(2), 1);
        due("120", on("R40B0231B0332B2113B3243B1953B0561").orders(63), 120);
    }

    private static void promise19() {
        promise(19);
        due("nobody", on(SIX).lasts(), NONE);
        due("two with 7", given("R10B0110B0210", 2).lasts(), 4);
        due("two with 8", given("R11B0110B0210", 2).lasts(), 5);
        due("none left", given("R01B0110", 1).lasts(), 1);
        due("one", given("R02B0110", 1).lasts(), 2);
        due("a TRAITOR", given("R99B3110B0110", 2).lasts(), 1);
        DumplingBand most = given("R99B0110", 1);
        due("the most", most.lasts(), 99);
        CHECKS.rowDue("nothing is changed", Checks.about(most), 1, 98, 1, 1, 0, NONE, 0, 0, 1, 0, 8, 1);
        most.dusk();
        due("a day later", most.lasts(), 98);
    }

    private static void promise20() {
        promise(20);
        due("nobody", on(SIX).feeds(), 0);
        due("all", given(SIX, 6).feeds(), 6);
        due("two of three", given("R05B0110B0110B0110", 3).feeds(), 2);
        due("three of three", given("R06B0110B0110B0110", 3).feeds(), 3);
        due("none", given("R03B0110B0110B0110", 3).feeds(), 0);
        DumplingBand traitor = given("R09B3110", 1);
        due("a TRAITOR eats", traitor.feeds(), 1);
        due("nobody left", traitor.about(2), 1);
    }

    private static int[] odds(DumplingBand band, int gate) {
        return new int[] {band.odds(gate, true), band.odds(gate, false)};
    }

    private static void promise21() {
        promise(21);
        DumplingBand band = on(FOUR);
        CHECKS.rowDue("nobody", odds(band, 0), 0, 1);
        Checks.giveAll(band, 2);
        CHECKS.rowDue("0 alone", odds(band, 0), 3, 10);
        CHECKS.rowDue("1 alone, in least terms", odds(band, 1), 2, 5);
        band.open();
        CHECKS.rowDue("as it is tried, though open", odds(band, 0), 3, 10);
        CHECKS.rowDue("gate -1", odds(band, -1), UNKNOWN, UNKNOWN);
        CHECKS.rowDue("gate 2", odds(band, 2), UNKNOWN, UNKNOWN);
        CHECKS.rowDue("gate most", odds(band, MOST), UNKNOWN, UNKNOWN);
        CHECKS.rowDue("two of three", odds(given("R09B0120B0151B0130G054", 3), 0), 11, 25);
        CHECKS.rowDue("six of 9", odds(given(SIX + "G001", 6), 0), 999999, 1000000);
        CHECKS.rowDue("two of 5", odds(given("R09B0150B0150G001", 2), 0), 3, 4);
        DumplingBand passed = given("R09B0150B0150G001", 1);
        passed.pass();
        CHECKS.rowDue("who passed does not try", odds(passed, 0), 1, 2);
    }

    private static void promise22() {
        promise(22);
        DumplingBand band = on("R40B0130B0150B0150B0191B0190G054G154G254");
        due("nobody", band.first(0), NONE);
        Checks.giveAll(band, 4);
        due("of like ones the least", band.first(0), 1);
        due("by SKILL", band.first(1), 3);
        due("none has it", band.first(2), NONE);
        band.give();
        due("the strongest", band.first(0), 4);
        due("gate -1", band.first(-1), UNKNOWN);
        due("gate 3", band.first(3), UNKNOWN);
        due("gate least", band.first(LEAST), UNKNOWN);
        DumplingBand passed = on("R40B0190B0110G001");
        passed.pass();
        passed.give();
        due("of THE BAND", passed.first(0), 1);
        due("0 alone", given("R40B0110G001", 1).first(0), 0);
    }

    private static int[] boats(DumplingBand band) {
        return new int[] {band.boat(1), band.boat(2), band.boat(3)};
    }

    private static void promise23() {
        promise(23);
        DumplingBand band = on(SIX);
        int[][] want = {{0, 0, 0}, {1, 1, 1}, {3, 1, 1}, {5, 3, 1}, {7, 3, 3}, {9, 5, 3}, {11, 5, 3}};
        for (int many = 0; many <= 6; many++) {
            CHECKS.rowDue(many + " BEASTS", boats(band), want[many]);
            band.give();
        }
        due("k 0", band.boat(0), BAD);
        due("k 4", band.boat(4), BAD);
        due("k -1", band.boat(-1), BAD);
        due("k most", band.boat(MOST), BAD);
        DumplingBand some = on("R40B0110B0110B0110B0120E02E13");
        some.pass();
        Checks.giveAll(some, 3);
        due("THE BAND", some.about(2), 12);
        CHECKS.rowDue("two that are not the first", boats(some), 3, 1, 1);
        DumplingBand quarrel = given("R40B0130B0120B0140E01E21", 3);
        due("THE BAND", quarrel.about(2), 5);
        CHECKS.rowDue("ENEMIES that left do not count", boats(quarrel), 3, 1, 1);
    }

    private static void promise24() {
        promise(24);
        DumplingBand band = given(FOUR, 2);
        due("0 of 20", band.share(0, 20), 8);
        due("1 of 20", band.share(1, 20), 11);
        due("not of THE BAND", band.share(2, 20), 0);
        due("none to share", band.share(0, 0), 0);
        due("of 99", band.share(1, 99), 56);
        due("cut", band.share(0, 2), 0);
        due("just one", band.share(0, 3), 1);
        due("t -1", band.share(0, -1), BAD);
        due("t 100", band.share(0, 100), BAD);
        due("t most", band.share(0, MOST), BAD);
        due("BAD for those who are not of THE BAND", band.share(2, 100), BAD);
        due("UNKNOWN", band.share(4, 20), UNKNOWN);
        due("UNKNOWN ahead of BAD", band.share(-1, 100), UNKNOWN);
        due("nobody", on(FOUR).share(0, 50), 0);
        due("alone", given("R09B0110", 1).share(0, 99), 99);
    }

    private static void promise25() {
        promise(25);
        DumplingBand band = given(FOUR, 2);
        due("0 COINS", band.envies(0), 3);
        due("4: 1 < 2, 2 < 3", band.envies(4), 3);
        due("5: 2, 2 < 3", band.envies(5), 2);
        due("6: 2, 3", band.envies(6), 0);
        due("99", band.envies(99), 0);
        due("t -1", band.envies(-1), BAD);
        due("t 100", band.envies(100), BAD);
        due("t least", band.envies(LEAST), BAD);
        due("nobody", on(FOUR).envies(0), 0);
        due("what it was given, not its PRICE", given("R09B1910", 1).envies(5), 0);
        due("one less", given("R09B1910", 1).envies(4), 1);
        DumplingBand envious = given("R50B0710B2110", 2);
        due("more than its PRICE", envious.envies(13), 3);
        due("as much", envious.envies(14), 0);
    }

    private static int[] eaten(DumplingBand band, int n) {
        return new int[] {band.eaten(n, 0), band.eaten(n, 1)};
    }

    private static void promise26() {
        promise(26);
        DumplingBand band = on("R00B0230B1541B2112B3373");
        CHECKS.rowDue("0", eaten(band, 0), 1, 0);
        CHECKS.rowDue("3: 0 and 2, or 3", eaten(band, 3), 2, 0);
        CHECKS.rowDue("7: 0 and 1", eaten(band, 7), 1, 3);
        CHECKS.rowDue("8: 0 1 2, 1 3", eaten(band, 8), 2, 2);
        CHECKS.rowDue("11: all", eaten(band, 11), 1, 15);
        CHECKS.rowDue("12", eaten(band, 12), 0, NONE);
        CHECKS.rowDue("60", eaten(band, 60), 0, NONE);
        CHECKS.rowDue("-1", eaten(band, -1), BAD, BAD);
        CHECKS.rowDue("61", eaten(band, 61), BAD, BAD);
        CHECKS.rowDue("most", eaten(band, MOST), BAD, BAD);
        due("what 2", band.eaten(0, 2), BAD);
        due("what -1", band.eaten(0, -1), BAD);
        band.tell(3, false);
        CHECKS.rowDue("8 without 3", eaten(band, 8), 1, 7);
        CHECKS.rowDue("11 without 3", eaten(band, 11), 0, NONE);
        band.tell(2, true);
        CHECKS.rowDue("0, but 2 ate", eaten(band, 0), 0, NONE);
        CHECKS.rowDue("1", eaten(band, 1), 1, 4);
        band.tell(2, false);
        CHECKS.rowDue("it ate and did not", eaten(band, 1), 0, NONE);
        CHECKS.rowDue("fifty-four", eaten(on("R00B0910B0910B0910B0910B0910B0910"), 54), 1, 63);
        CHECKS.rowDue("twenty", eaten(on("R00B0910B0910B0910B0910B0910B0910"), 27), 20, 0);
        promise26OtherRoads();
    }

    private static void promise26OtherRoads() {
        DumplingBand band = on(SIX);
        band.tell(5, true);
        band.tell(4, false);
        band.tell(0, true);
        CHECKS.rowDue("6 with 0", eaten(band, 6), 0, NONE);
        CHECKS.rowDue("7", eaten(band, 7), 1, 33);
        Checks.takeRoad(band, "R00B0110B0210B0310");
        CHECKS.rowDue("4 and 5 are not any more", eaten(band, 1), 1, 1);
        CHECKS.rowDue("but 0", eaten(band, 3), 1, 3);
        due("how many are TOLD", band.about(9), 3);
        Checks.takeRoad(band, SIX);
        CHECKS.rowDue("there again", eaten(band, 7), 1, 33);
        DumplingBand far = given(SIX, 3);
        far.pass();
        CHECKS.rowDue("all BEASTS, of THE BAND or not", eaten(far, 21), 1, 63);
    }

    private static void promise27() {
        promise(27);
        DumplingBand band = on(FOUR);
        due("beast 4", band.tell(4, true), UNKNOWN);
        due("beast -1", band.tell(-1, true), UNKNOWN);
        due("beast most", band.tell(MOST, false), UNKNOWN);
        for (int told = 1; told <= 6; told++) {
            due("tell", band.tell(3, true), told);
        }
        due("the 7th", band.tell(2, false), FULL);
        due("UNKNOWN ahead of FULL", band.tell(4, false), UNKNOWN);
        due("TOLD", band.about(9), 6);
        CHECKS.rowDue("refused: 2 may have eaten", eaten(band, 4), 1, 12);
        due("no ACT", band.about(8), 0);
        due("no BEAST", new DumplingBand().tell(0, true), UNKNOWN);
    }

    private static void promise28() {
        promise(28);
        DumplingBand band = on(FOUR);
        due("none", band.untell(), 0);
        band.tell(0, true);
        band.tell(1, false);
        due("two", band.untell(), 2);
        due("none", band.untell(), 0);
        due("TOLD", band.about(9), 0);
        CHECKS.rowDue("nothing is TOLD", eaten(band, 5), 2, 0);
        due("from the first again", band.tell(1, true), 1);
        CHECKS.rowDue("1 ate", eaten(band, 5), 1, 2);
    }

    private static int[] luck(DumplingBand band, int gate, int x) {
        return new int[] {band.luck(gate, x, true), band.luck(gate, x, false)};
    }

    private static void promise29() {
        promise(29);
        DumplingBand band = given(FOUR, 2);
        CHECKS.rowDue("0 must stay", luck(band, 0, 3), 7, 10);
        CHECKS.rowDue("in least terms", luck(band, 0, 4), 3, 5);
        CHECKS.rowDue("too little STRENGTH", luck(band, 1, 3), 0, 1);
        CHECKS.rowDue("nobody deserts", luck(band, 0, 0), 1, 1);
        CHECKS.rowDue("all desert", luck(band, 0, 10), 0, 1);
        band.open();
        CHECKS.rowDue("though it is open", luck(band, 0, 3), 7, 10);
        CHECKS.rowDue("x -1", luck(band, 0, -1), BAD, BAD);
        CHECKS.rowDue("x 11", luck(band, 0, 11), BAD, BAD);
        CHECKS.rowDue("x most", luck(band, 0, MOST), BAD, BAD);
        CHECKS.rowDue("gate 2", luck(band, 2, 3), UNKNOWN, UNKNOWN);
        CHECKS.rowDue("UNKNOWN ahead of BAD", luck(band, -1, 11), UNKNOWN, UNKNOWN);
        CHECKS.rowDue("nobody", luck(on(FOUR), 0, 5), 0, 1);
        CHECKS.rowDue("one of two must stay", luck(given("R09B0150B0150G005", 2), 0, 5), 3, 4);
        CHECKS.rowDue("two of three", luck(given("R09B0150B0150B0150G010", 3), 0, 1), 243, 250);
        CHECKS.rowDue("SKILL of the one, STRENGTH of the other", luck(given("R09B0110B0151G006", 2), 0, 5), 1, 4);
        CHECKS.rowDue("all six", luck(given(SIX + "G054", 6), 0, 1), 531441, 1000000);
        CHECKS.rowDue("one of six", luck(given(SIX + "G001", 6), 0, 9), 468559, 1000000);
        CHECKS.rowDue("not the first GATE", luck(given("R09B0190G154G001", 1), 1, 5), 1, 2);
        DumplingBand passed = on("R09B0190B0111B0110G001");
        passed.pass();
        passed.give();
        passed.give();
        CHECKS.rowDue("of THE BAND", luck(passed, 0, 2), 4, 5);
    }

    private static void promise30() {
        promise(30);
        DumplingBand band = new DumplingBand();
        due("0 at first", band.seed(Long.MIN_VALUE), 0);
        due("least", band.seed(Long.MAX_VALUE), Long.MIN_VALUE);
        due("most", band.seed(-1), Long.MAX_VALUE);
        due("-1", band.seed(1L << 40), -1);
        due("2 to the 40", band.seed(0), 1L << 40);
        due("no ACT", band.about(8), 0);
    }

    private static void promise31() {
        promise(31);
        DumplingBand band = on("R03B0110B0110B0110");
        band.seed(7);
        due("all", band.roam(10), 7);
        due("none", band.roam(0), 0);
        due("THE SEED behind six", band.seed(0), 2553420073753464661L);
        CHECKS.rowDue("nothing else", Checks.about(band), 3, 3, 0, 0, 0, 0, 0, 0, 0, 0, 18, 0);
        due("t -1", band.roam(-1), BAD);
        due("t 11", band.roam(11), BAD);
        due("t least", band.roam(LEAST), BAD);
        due("refused: THE SEED stays", band.seed(0), 0);
        DumplingBand poor = on("R02B0110B0110B0110");
        due("as long as there are DUMPLINGS", poor.roam(10), 3);
        due("THE SEED goes on for each", poor.seed(0), seedBehind(0, 3));
        DumplingBand on = given(FOUR, 2);
        on.seed(5);
        due("with who came", on.roam(6), 11);
        due("THE SEED behind two", on.seed(0), seedBehind(5, 2));
        DumplingBand end = given(SIX, 6);
        end.seed(11);
        due("nobody is next", end.roam(10), 63);
        due("THE SEED", end.seed(0), 11);
        DumplingBand mixed = on(SIX);
        mixed.seed(1);
        due("each by its own figure", mixed.roam(5), givenBySeed(1, 6, 5));
        due("not all, not none", givenBySeed(1, 6, 5) % 63 == 0 ? 1 : 0, 0);
        due("quarrels, too", on("R90B0150B0190E01").roam(10), 2);
        figuresOfTheSeed();
    }

    private static long seedBehind(long seed, int times) {
        long x = seed;
        for (int time = 0; time < times; time++) {
            x = x * 6364136223846793005L + 1442695040888963407L;
        }
        return x;
    }

    private static int givenBySeed(long seed, int beasts, int t) {
        int set = 0;
        for (int beast = 0; beast < beasts; beast++) {
            long figure = Long.remainderUnsigned(seedBehind(seed, beast + 1) >>> 33, 10);
            set |= figure < t ? 1 << beast : 0;
        }
        return set;
    }

    /** One BEAST on THE ROAD: it is GIVEN just if its figure is less than t. */
    private static void figuresOfTheSeed() {
        DumplingBand band = on("R09B0110");
        for (long seed = -20; seed < 20; seed++) {
            long figure = Long.remainderUnsigned(seedBehind(seed, 1) >>> 33, 10);
            for (int t = 0; t <= 10; t += 1 + (int) (figure % 2)) {
                band.seed(seed);
                due("seed " + seed + ", t " + t, band.roam(t), figure < t ? 1 : 0);
            }
        }
    }

    private static void promise32() {
        promise(32);
        DumplingBand band = given(FOUR, 2);
        due("keep(0)", band.keep(0), 2);
        due("keep(1)", band.keep(1), 2);
        due("keep(2)", band.keep(2), UNKNOWN);
        due("keep(-1)", band.keep(-1), UNKNOWN);
        due("keep(most)", band.keep(MOST), UNKNOWN);
        CHECKS.rowDue("nothing is changed", Checks.about(band), 4, 7, 3, 7, 0, 2, 2, 0, 2, 0, 34, 3);
        band.give();
        band.undo();
        band.undo();
        due("over what was kept", band.keep(0), 1);
        band.undo();
        due("the newer", band.again(0), 1);
        due("the other slot", band.again(1), 2);
        due("no ROAD", new DumplingBand().keep(0), 0);
    }

    private static void promise33() {
        promise(33);
        DumplingBand band = given(FOUR, 2);
        due("again(0)", band.again(0), LATE);
        due("again(1)", band.again(1), LATE);
        due("again(2)", band.again(2), UNKNOWN);
        due("again(-1)", band.again(-1), UNKNOWN);
        due("refused: ACTS stay", band.about(8), 2);
        band.open();
        band.dusk();
        band.keep(1);
        int[] kept = Checks.about(band);
        due("the other is not kept", band.again(0), LATE);
        band.give();
        band.give();
        for (int dusk = 0; dusk < 4; dusk++) {
            band.dusk();
        }
        band.tell(0, true);
        band.seed(3);
        band.wipe();
        due("again", band.again(1), 2);
        kept[8] = 0;
        kept[9] = 1;
        kept[10] = 0;
        CHECKS.rowDue("as it was kept", Checks.about(band), kept);
        due("what 0 was given", band.beast(0, 6), 2);
        due("what 1 was given", band.beast(1, 6), 3);
        due("what 3 was given", band.beast(3, 6), NONE);
        DumplingBand otherwise = on("R50B0710B2110");
        otherwise.keep(0);
        Checks.giveAll(otherwise, 2);
        otherwise.keep(1);
        otherwise.again(0);
        otherwise.pass();
        otherwise.give();
        due("ENVIOUS of nobody", otherwise.beast(1, 6), 1);
        otherwise.again(1);
        CHECKS.rowDue("as they were given then", new int[] {otherwise.beast(0, 6), otherwise.beast(1, 6)}, 7, 7);
        Checks.takeRoad(otherwise, "R50B0310B2110");
        Checks.giveAll(otherwise, 2);
        CHECKS.rowDue("on the new ROAD", new int[] {otherwise.beast(0, 6), otherwise.beast(1, 6)}, 3, 3);
        due("THE SEED stays", band.seed(0), 3);
        due("no ACTS", band.undo(), LATE);
        band.dusk();
        due("it stays kept", band.again(1), 2);
        CHECKS.rowDue("as it was kept", Checks.about(band), kept);
        band.give();
        due("ACTS from there", band.undo(), 0);
        CHECKS.rowDue("undone", Checks.about(band), kept);
    }
}
