/** Edges that the document names for eaten, chances, slots: promises 26 to 33. */
public final class ChanceEdgesTest extends Edges {
    /** Six of PRICE 9. */
    private static final String DEAR = "R99B0910B0910B0910B0910B0910B0910";
    private static final String ONE = "R09B0110";

    public static void main(String[] args) {
        runAll(ChanceEdgesTest.class);
    }

    private static void eatenDue(DumplingBand band, int n, int sets, int ofAll) {
        rowDue("eaten of " + n, new int[] {band.eaten(n, 0), band.eaten(n, 1)}, sets, ofAll);
    }

    // ---- promise 26: eaten

    private static void p26NUnder0() {
        eatenDue(on(SIX), -1, BAD, BAD);
        eatenDue(on(SIX), LEAST, BAD, BAD);
    }

    private static void p26LeastN() {
        eatenDue(on(SIX), 0, 1, 0);
    }

    private static void p26GreatestN() {
        eatenDue(on(DEAR), 60, 0, NONE);
    }

    private static void p26NOver60() {
        eatenDue(on(DEAR), 61, BAD, BAD);
        eatenDue(on(DEAR), MOST, BAD, BAD);
    }

    private static void p26WhatUnder0() {
        due("eaten(0, -1)", on(SIX).eaten(0, -1), BAD);
        due("eaten(0, least)", on(SIX).eaten(0, LEAST), BAD);
    }

    private static void p26WhatOver1() {
        due("eaten(0, 2)", on(SIX).eaten(0, 2), BAD);
        due("eaten(0, most)", on(SIX).eaten(0, MOST), BAD);
    }

    private static void p26BadThoughThereIsNone() {
        due("eaten(60, 2)", on(SIX).eaten(60, 2), BAD);
        due("eaten(60, -1)", on(SIX).eaten(60, -1), BAD);
    }

    private static void p26NoBeasts() {
        eatenDue(new DumplingBand(), 0, 1, 0);
        eatenDue(new DumplingBand(), 1, 0, NONE);
    }

    private static void p26AllOfThem() {
        eatenDue(on(DEAR), 54, 1, 63);
        eatenDue(on(SIX), 21, 1, 63);
    }

    private static void p26OneMoreThanAll() {
        eatenDue(on(DEAR), 55, 0, NONE);
        eatenDue(on(SIX), 22, 0, NONE);
    }

    private static void p26OneLessThanAll() {
        eatenDue(on(DEAR), 53, 0, NONE);
        eatenDue(on(SIX), 20, 1, 62);
    }

    private static void p26NobodyIsOfAll() {
        eatenDue(on(DEAR), 27, 20, 0);
        eatenDue(on("R00B0110B0110"), 1, 2, 0);
    }

    private static void p26OneIsOfAll() {
        eatenDue(on("R00B0210B0110B0110"), 3, 2, 1);
        eatenDue(on("R00B0110B0110B0210"), 3, 2, 4);
    }

    private static void p26PriceNotWhatOneAsks() {
        eatenDue(on("R00B1910"), 9, 1, 1);
        eatenDue(on("R00B1910"), 5, 0, NONE);
    }

    private static void p26ToldThatOneAte() {
        DumplingBand band = on("R00B0110B0110");
        band.tell(1, true);
        eatenDue(band, 0, 0, NONE);
        eatenDue(band, 1, 1, 2);
        eatenDue(band, 2, 1, 3);
    }

    private static void p26ToldThatOneDidNot() {
        DumplingBand band = on("R00B0110B0110");
        band.tell(1, false);
        eatenDue(band, 0, 1, 0);
        eatenDue(band, 1, 1, 1);
        eatenDue(band, 2, 0, NONE);
    }

    private static void p26ToldBoth() {
        DumplingBand band = on("R00B0110B0110");
        band.tell(1, false);
        band.tell(1, true);
        for (int n = 0; n <= 2; n++) {
            eatenDue(band, n, 0, NONE);
        }
    }

    private static void p26SixTold() {
        DumplingBand band = on(SIX);
        for (int beast = 0; beast < 6; beast++) {
            band.tell(beast, beast % 2 == 0);
        }
        eatenDue(band, 9, 1, 21);
        eatenDue(band, 3, 0, NONE);
    }

    private static void p26ToldOfBeastsThatThereAreNotAnyMore() {
        DumplingBand band = on(SIX);
        band.tell(5, true);
        band.tell(1, true);
        band.tell(1, false);
        take(band, "R00B0110");
        eatenDue(band, 0, 1, 0);
        eatenDue(band, 1, 1, 1);
    }

    private static void p26ToldOfNoBeastThatIsLeft() {
        DumplingBand band = on(SIX);
        band.tell(0, true);
        take(band, "R00");
        eatenDue(band, 0, 1, 0);
    }

    private static void p26WhetherOfTheBandOrNot() {
        eatenDue(passed(given(SIX, 3), 3), 21, 1, 63);
    }

    // ---- promise 27: tell

    private static void p27FirstAndLastBeast() {
        due("tell(0, true)", on(SIX).tell(0, true), 1);
        due("tell(5, false)", on(SIX).tell(5, false), 1);
    }

    private static void p27UnderTheFirst() {
        due("tell(-1, true)", on(SIX).tell(-1, true), UNKNOWN);
        due("tell(least, true)", on(SIX).tell(LEAST, true), UNKNOWN);
    }

    private static void p27OverTheLast() {
        due("tell(6, true)", on(SIX).tell(6, true), UNKNOWN);
        due("tell(4, false) of four", on(FOUR).tell(4, false), UNKNOWN);
        due("tell(most, true)", on(SIX).tell(MOST, true), UNKNOWN);
        due("tell(0, true) of none", new DumplingBand().tell(0, true), UNKNOWN);
    }

    private static void p27HowManyThereAre() {
        DumplingBand band = on(SIX);
        for (int told = 1; told <= 6; told++) {
            due("tell", band.tell(6 - told, false), told);
        }
    }

    private static void p27TheSixth() {
        DumplingBand band = told(on(SIX), 5);
        due("tell", band.tell(1, true), 6);
        eatenDue(band, 3, 1, 3);
    }

    private static void p27TheSeventh() {
        due("tell", told(on(SIX), 6).tell(1, true), FULL);
        due("of the same", told(on(SIX), 6).tell(0, true), FULL);
    }

    private static void p27FullChangesNothing() {
        DumplingBand band = told(on(SIX), 6);
        band.tell(1, true);
        band.tell(0, false);
        due("TOLD", band.about(9), 6);
        eatenDue(band, 1, 1, 1);
    }

    private static void p27UnknownIsToldAheadOfFull() {
        due("tell(6, true)", told(on(SIX), 6).tell(6, true), UNKNOWN);
        due("tell(-1, true)", told(on(SIX), 6).tell(-1, true), UNKNOWN);
    }

    private static void p27UnknownChangesNothing() {
        DumplingBand band = on(FOUR);
        band.tell(4, true);
        band.tell(-1, true);
        band.tell(32, true);
        due("TOLD", band.about(9), 0);
        eatenDue(band, 0, 1, 0);
    }

    private static void p27TheSameTwiceIsTwo() {
        DumplingBand band = on("R00B0110");
        band.tell(0, true);
        due("tell", band.tell(0, true), 2);
        eatenDue(band, 0, 0, NONE);
        band.untell();
        band.tell(0, false);
        due("tell", band.tell(0, false), 2);
        eatenDue(band, 1, 0, NONE);
    }

    private static void p27OnANewRoadStillFull() {
        DumplingBand band = told(on(SIX), 6);
        take(band, FOUR);
        due("tell", band.tell(0, true), FULL);
    }

    // ---- promise 28: untell

    private static void p28NothingIsTold() {
        due("no ROAD", new DumplingBand().untell(), 0);
        due("none", on(SIX).untell(), 0);
    }

    private static void p28SixAreTold() {
        due("untell", told(on(SIX), 6).untell(), 6);
        due("seven", told(on(SIX), 7).untell(), 6);
    }

    private static void p28NothingIsToldThen() {
        DumplingBand band = on(SIX);
        band.tell(0, true);
        band.tell(1, false);
        band.untell();
        due("TOLD", band.about(9), 0);
        due("untell", band.untell(), 0);
        eatenDue(band, 0, 1, 0);
        eatenDue(band, 1, 1, 1);
        eatenDue(band, 2, 1, 2);
    }

    private static void p28ThereIsRoomForSix() {
        DumplingBand band = told(on(SIX), 6);
        band.untell();
        for (int told = 1; told <= 6; told++) {
            due("tell", band.tell(0, true), told);
        }
        due("tell", band.tell(0, true), FULL);
    }

    // ---- promise 29: luck

    private static void luckDue(DumplingBand band, int gate, int x, int above, int below) {
        rowDue("luck at " + gate + " by " + x,
            new int[] {band.luck(gate, x, true), band.luck(gate, x, false)}, above, below);
    }

    private static void p29FirstAndLastGate() {
        DumplingBand band = given("R09B0110B0112G001G101G201", 2);
        luckDue(band, 0, 1, 9, 10);
        luckDue(band, 1, 1, 0, 1);
        luckDue(band, 2, 2, 4, 5);
    }

    private static void p29UnderTheFirst() {
        luckDue(given(FOUR, 2), -1, 3, UNKNOWN, UNKNOWN);
        luckDue(given(FOUR, 2), LEAST, 3, UNKNOWN, UNKNOWN);
    }

    private static void p29OverTheLast() {
        luckDue(given(FOUR, 2), 2, 3, UNKNOWN, UNKNOWN);
        luckDue(given("R09B0110G001G001G001", 1), 3, 3, UNKNOWN, UNKNOWN);
        luckDue(given(FOUR, 2), MOST, 3, UNKNOWN, UNKNOWN);
        luckDue(new DumplingBand(), 0, 3, UNKNOWN, UNKNOWN);
    }

    private static void p29XUnder0() {
        luckDue(given(FOUR, 2), 0, -1, BAD, BAD);
        luckDue(given(FOUR, 2), 0, LEAST, BAD, BAD);
    }

    private static void p29LeastX() {
        luckDue(given("R09B0150G005", 1), 0, 0, 1, 1);
        luckDue(given("R09B0150G006", 1), 0, 0, 0, 1);
    }

    private static void p29GreatestX() {
        luckDue(given("R09B0150G005", 1), 0, 10, 0, 1);
    }

    private static void p29XOver10() {
        luckDue(given(FOUR, 2), 0, 11, BAD, BAD);
        luckDue(given(FOUR, 2), 0, MOST, BAD, BAD);
    }

    private static void p29UnknownIsToldAheadOfBad() {
        luckDue(given(FOUR, 2), 2, 11, UNKNOWN, UNKNOWN);
        luckDue(given(FOUR, 2), -1, -1, UNKNOWN, UNKNOWN);
    }

    private static void p29BadThoughThereIsNobody() {
        luckDue(on(FOUR), 0, 11, BAD, BAD);
        luckDue(on(FOUR), 0, -1, BAD, BAD);
    }

    private static void p29Nobody() {
        luckDue(on(FOUR), 0, 0, 0, 1);
        luckDue(on(FOUR), 0, 5, 0, 1);
        luckDue(on(FOUR), 0, 10, 0, 1);
    }

    private static void p29EachX() {
        int[][] want = {{1, 1}, {9, 10}, {4, 5}, {7, 10}, {3, 5}, {1, 2}, {2, 5}, {3, 10}, {1, 5}, {1, 10}, {0, 1}};
        for (int x = 0; x <= 10; x++) {
            luckDue(given("R09B0150G005", 1), 0, x, want[x][0], want[x][1]);
        }
    }

    private static void p29StrengthAsWanted() {
        luckDue(given("R09B0150B0140G009", 2), 0, 5, 1, 4);
        luckDue(given("R09B0150B0140G010", 2), 0, 5, 0, 1);
        luckDue(given("R09B0150B0140G005", 2), 0, 5, 1, 2);
        luckDue(given("R09B0150B0140G004", 2), 0, 5, 3, 4);
    }

    private static void p29SomebodyLeftHasItsSkill() {
        luckDue(given("R09B0190B0111G101", 2), 0, 5, 1, 2);
        luckDue(given("R09B0190B0111G102", 2), 0, 5, 1, 4);
    }

    private static void p29FullBand() {
        luckDue(given(SIX + "G054", 6), 0, 9, 1, 1000000);
        luckDue(given(SIX + "G001", 6), 0, 1, 999999, 1000000);
    }

    private static void p29ThoughItIsOpenOrNotTheFirst() {
        DumplingBand band = given("R09B0150G005G005", 1);
        luckDue(band, 1, 1, 9, 10);
        band.open();
        luckDue(band, 0, 1, 9, 10);
    }

    // ---- promise 30: seed

    private static void p30LeastAndGreatest() {
        DumplingBand band = new DumplingBand();
        band.seed(Long.MIN_VALUE);
        due("the least", band.seed(Long.MAX_VALUE), Long.MIN_VALUE);
        due("the greatest", band.seed(0), Long.MAX_VALUE);
    }

    private static void p30MoreThan32Bits() {
        DumplingBand band = new DumplingBand();
        band.seed(0x123456789abcdef0L);
        due("seed", band.seed(0), 0x123456789abcdef0L);
    }

    private static void p30NegativeIsNoRefusal() {
        DumplingBand band = new DumplingBand();
        band.seed(-2);
        due("seed", band.seed(-9), -2);
        due("seed", band.seed(0), -9);
    }

    // ---- promise 31: roam

    private static void p31TUnder0() {
        due("roam(-1)", on(SIX).roam(-1), BAD);
        due("roam(least)", on(SIX).roam(LEAST), BAD);
    }

    private static void p31LeastT() {
        due("roam(0)", on(SIX).roam(0), 0);
    }

    private static void p31GreatestT() {
        due("roam(10)", on(SIX).roam(10), 63);
    }

    private static void p31TOver10() {
        due("roam(11)", on(SIX).roam(11), BAD);
        due("roam(most)", on(SIX).roam(MOST), BAD);
    }

    private static void p31BadKeepsTheSeed() {
        DumplingBand band = on(SIX);
        band.seed(12);
        band.roam(-1);
        band.roam(11);
        due("seed", band.seed(0), 12);
    }

    private static void p31NobodyIsNextKeepsTheSeed() {
        DumplingBand band = given(SIX, 6);
        band.seed(12);
        due("roam", band.roam(10), 63);
        due("seed", band.seed(0), 12);
        DumplingBand none = new DumplingBand();
        none.seed(12);
        due("roam without a ROAD", none.roam(10), 0);
        due("seed", none.seed(0), 12);
    }

    private static void p31OneStepForEachFromTheNextOn() {
        DumplingBand band = passed(on(SIX), 5);
        band.roam(0);
        due("one", band.seed(0), 1442695040888963407L);
        DumplingBand all = on(SIX);
        due("all", all.roam(5), 34);
        due("six", all.seed(0), -8100709956324362746L);
        due("by one more", all.roam(6), 50);
    }

    private static void p31StepsEvenIfItIsNotGiven() {
        DumplingBand band = on("R00B0110B0110B0110B0110B0110B0110");
        due("no DUMPLINGS", band.roam(10), 0);
        due("six", band.seed(0), -8100709956324362746L);
    }

    private static void figureDue(long seed, long x, int figure) {
        DumplingBand band = on(ONE);
        for (int t = 0; t <= 10; t++) {
            band.seed(seed);
            due("seed " + seed + ", roam(" + t + ")", band.roam(t), figure < t ? 1 : 0);
            due("THE SEED then", band.seed(0), x);
        }
    }

    private static void p31TheSeedWrapsAround() {
        figureDue(Long.MAX_VALUE, 4301930853896946210L, 4);
        figureDue(Long.MIN_VALUE, -7780676995965812401L, 1);
        figureDue(-1, -4921441182957829598L, 8);
        figureDue(0, 1442695040888963407L, 7);
        figureDue(1, 7806831264735756412L, 4);
    }

    private static void p31TheSeedBecomes0() {
        figureDue(-7379792620528906219L, 0, 0);
    }

    private static void p31LeastFigures() {
        figureDue(4483922187169113968L, (1L << 33) - 1, 0);
        figureDue(-84997745826115563L, 1L << 33, 1);
    }

    private static void p31WhatIsLeftBy10() {
        figureDue(2933129030667554837L, 9L << 33, 9);
        figureDue(-8218820168339206123L, 10L << 33, 0);
    }

    private static void p31TheUppermostBit() {
        figureDue(6412499349321099120L, Long.MAX_VALUE, 3);
        figureDue(1843579416325869589L, Long.MIN_VALUE, 4);
        figureDue(3772156578477854741L, -1L << 33, 7);
        figureDue(-2810872687533676688L, -1, 7);
    }

    private static void p31DumplingsJustEnough() {
        due("enough", on("R03B0110B0210").roam(10), 3);
        due("one too few", on("R02B0110B0210").roam(10), 1);
        due("for the one behind", on("R02B0310B0210").roam(10), 2);
    }

    private static void p31WhatEachAsks() {
        due("HALVED", on("R05B1910").roam(10), 1);
        due("ENVIOUS", on("R17B0910B2110").roam(10), 1);
        due("ENVIOUS", on("R18B0910B2110").roam(10), 3);
    }

    private static void p31EnviousOfWhoHadComeAlready() {
        due("enough", given("R18B0910B2110", 1).roam(10), 3);
        due("one too few", given("R17B0910B2110", 1).roam(10), 1);
    }

    private static void p31QuarrelsAndNoDusk() {
        due("the new one leaves", on("R09B0110B0110E01").roam(10), 1);
        due("a TRAITOR stays", on("R01B3110").roam(10), 1);
    }

    private static void p31TheBandWithWhoCame() {
        due("none of those to come", given(SIX, 2).roam(0), 3);
        due("all", given(SIX, 2).roam(10), 63);
    }

    private static void p31NothingChangesButTheSeed() {
        DumplingBand band = given(FOUR, 1);
        band.roam(10);
        rowDue("about", about(band), 4, 10, 1, 3, 0, 1, 2, 0, 1, 0, 34, 1);
        rowDue("given", new int[] {band.beast(0, 6), band.beast(1, 6)}, 2, NONE);
    }

    // ---- promise 32: keep

    private static void p32FirstAndLastSlot() {
        due("keep(0)", given(SIX, 6).keep(0), 6);
        due("keep(1)", given(SIX, 6).keep(1), 6);
    }

    private static void p32UnderTheFirst() {
        due("keep(-1)", given(SIX, 6).keep(-1), UNKNOWN);
        due("keep(least)", given(SIX, 6).keep(LEAST), UNKNOWN);
    }

    private static void p32OverTheLast() {
        due("keep(2)", given(SIX, 6).keep(2), UNKNOWN);
        due("keep(most)", given(SIX, 6).keep(MOST), UNKNOWN);
    }

    private static void p32UnknownChangesNothing() {
        DumplingBand band = on(SIX);
        band.keep(-1);
        band.keep(2);
        due("again(0)", band.again(0), LATE);
        due("again(1)", band.again(1), LATE);
    }

    private static void p32EmptyBand() {
        due("no ROAD", new DumplingBand().keep(0), 0);
        due("nobody came", on(SIX).keep(1), 0);
    }

    private static void p32OneSlotIsNotTheOther() {
        DumplingBand band = given(SIX, 1);
        band.keep(0);
        due("again(1)", band.again(1), LATE);
        band.give();
        band.keep(1);
        due("again(0)", band.again(0), 1);
        due("again(1)", band.again(1), 2);
    }

    private static void p32OverWhatWasKept() {
        DumplingBand band = given(SIX, 1);
        band.keep(0);
        band.give();
        due("keep", band.keep(0), 2);
        band.give();
        due("again", band.again(0), 2);
    }

    private static void p32ActsStay() {
        DumplingBand band = given(SIX, 2);
        band.keep(0);
        due("ACTS", band.about(8), 2);
        due("undo", band.undo(), 1);
    }

    // ---- promise 33: again

    private static void p33FirstAndLastSlot() {
        DumplingBand band = given(SIX, 6);
        band.keep(0);
        band.keep(1);
        due("again(0)", band.again(0), 6);
        due("again(1)", band.again(1), 6);
    }

    private static void p33UnderTheFirst() {
        due("again(-1)", on(SIX).again(-1), UNKNOWN);
        due("again(least)", on(SIX).again(LEAST), UNKNOWN);
    }

    private static void p33OverTheLast() {
        due("again(2)", on(SIX).again(2), UNKNOWN);
        due("again(most)", on(SIX).again(MOST), UNKNOWN);
    }

    private static void p33NoneWereKept() {
        due("again(0)", on(SIX).again(0), LATE);
        due("again(1)", on(SIX).again(1), LATE);
    }

    private static void p33LateChangesNothing() {
        DumplingBand band = given(FOUR, 2);
        due("again", band.again(0), LATE);
        rowDue("about", about(band), 4, 7, 3, 7, 0, 2, 2, 0, 2, 0, 34, 3);
        due("undo", band.undo(), 1);
    }

    private static void p33AllThatIsKept() {
        DumplingBand band = given("R20B0410B0210B0110B0110G001", 2);
        band.open();
        band.dusk();
        band.keep(1);
        slept(Checks.giveAll(band, 2), 9);
        due("again", band.again(1), 2);
        rowDue("about", about(band), 4, 12, 3, 2, 1, 2, 1, 1, 0, 0, 27, 1);
        rowDue("given", new int[] {band.beast(0, 6), band.beast(1, 6), band.beast(2, 6)}, 4, 2, NONE);
    }

    private static void p33WhatEachWasGivenThen() {
        DumplingBand band = on("R99B0910B2110B2110");
        band.keep(0);
        Checks.giveAll(band, 2);
        band.keep(1);
        band.again(0);
        band.pass();
        band.give();
        due("0 had passed", band.beast(1, 6), 1);
        band.again(1);
        due("0 had come", band.beast(1, 6), 9);
        due("ENVIOUS of that", band.beast(2, 5), 9);
    }

    private static void p33GatesThatWereNotOpenAreShut() {
        DumplingBand band = given("R09B0110G001", 1);
        band.keep(0);
        band.open();
        band.again(0);
        due("open", band.about(7), 0);
        due("gate(0, 2)", band.gate(0, 2), 0);
    }

    private static void p33NoActs() {
        DumplingBand band = given(SIX, 2);
        band.keep(0);
        band.again(0);
        due("ACTS", band.about(8), 0);
        due("undo", band.undo(), LATE);
    }

    private static void p33TheRowIsEmptyThen() {
        DumplingBand band = slept(on(SIX), 20);
        band.keep(0);
        band.again(0);
        slept(band, 14);
        for (int left = 13; left >= 0; left--) {
            due("undo", band.undo(), left);
        }
        due("THE DAY", band.about(4), 20);
    }

    private static void p33ItStaysKept() {
        DumplingBand band = given(SIX, 3);
        band.keep(0);
        for (int time = 0; time < 3; time++) {
            slept(band, 2);
            due("again", band.again(0), 3);
            due("THE DAY", band.about(4), 0);
        }
    }

    private static void p33WhatIsDoneThenIsNotKept() {
        DumplingBand band = given("R09B0110B0110G001", 1);
        band.keep(0);
        band.again(0);
        band.give();
        band.open();
        band.dusk();
        band.again(0);
        rowDue("about", about(band), 2, 8, 1, 1, 0, 1, 1, 0, 0, 0, 17, 1);
    }

    private static void p33TextToldAndSeedStay() {
        DumplingBand band = on(SIX);
        band.keep(0);
        band.tell(0, true);
        band.seed(4);
        band.write('x');
        band.again(0);
        due("TOLD", band.about(9), 1);
        due("bytes", band.about(10), 34);
        due("seed", band.seed(0), 4);
    }

    private static void p33EmptyBand() {
        DumplingBand band = new DumplingBand();
        band.keep(1);
        due("again", band.again(1), 0);
    }
}
