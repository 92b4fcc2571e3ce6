/** Edges that the document names for takings: promises 14 to 20, and part 2 of its Terms. */
public final class TakingEdgesTest extends Edges {
    public static void main(String[] args) {
        runAll(TakingEdgesTest.class);
    }

    private static void takingDue(DumplingBand band, int set, int cost, int members, int gates) {
        rowDue("taking of " + set, new int[] {band.taking(set, 0), band.taking(set, 1), band.taking(set, 2)},
            cost, members, gates);
    }

    private static void cheapestDue(DumplingBand band, int cost, int set) {
        rowDue("cheapest", new int[] {band.cheapest(0), band.cheapest(1)}, cost, set);
    }

    private static void farthestDue(DumplingBand band, int gates, int cost, int set) {
        rowDue("farthest", new int[] {band.farthest(0), band.farthest(1), band.farthest(2)}, gates, cost, set);
    }

    // ---- promise 14: taking

    private static void p14EmptySet() {
        takingDue(on(SIX), 0, 0, 0, 0);
        takingDue(new DumplingBand(), 0, 0, 0, 0);
        takingDue(given(SIX, 6), 0, 0, 63, 0);
    }

    private static void p14FullSet() {
        takingDue(on(SIX), 63, 21, 63, 0);
    }

    private static void p14SetOfTheLastAlone() {
        takingDue(on(SIX), 32, 6, 32, 0);
    }

    private static void p14SetUnder0() {
        takingDue(on(SIX), -1, BAD, BAD, BAD);
        takingDue(on(SIX), LEAST, BAD, BAD, BAD);
        takingDue(on(SIX), LEAST + 1, BAD, BAD, BAD);
    }

    private static void p14SetOverAll() {
        takingDue(on(SIX), 64, BAD, BAD, BAD);
        takingDue(on(FOUR), 16, BAD, BAD, BAD);
        takingDue(on(SIX), MOST, BAD, BAD, BAD);
        takingDue(on(SIX), 1 << 30, BAD, BAD, BAD);
    }

    private static void p14SetOfAllOfFour() {
        due("15 of four", on("R99B0110B0110B0110B0110").taking(15, 0), 4);
    }

    private static void p14SetWithOneThatIsNotToCome() {
        DumplingBand band = given(SIX, 2);
        takingDue(band, 2, BAD, BAD, BAD);
        takingDue(band, 63, BAD, BAD, BAD);
        takingDue(band, 60, 18, 63, 0);
        due("who passed", passed(on(SIX), 1).taking(1, 0), BAD);
    }

    private static void p14NobodyIsToCome() {
        due("the last", given(SIX, 6).taking(32, 0), BAD);
        due("one behind the last", given(SIX, 6).taking(64, 0), BAD);
        due("no ROAD", new DumplingBand().taking(1, 0), BAD);
    }

    private static void p14WhatUnder0() {
        due("taking(0, -1)", on(SIX).taking(0, -1), BAD);
        due("taking(0, least)", on(SIX).taking(0, LEAST), BAD);
    }

    private static void p14WhatOver2() {
        due("taking(0, 3)", on(SIX).taking(0, 3), BAD);
        due("taking(0, most)", on(SIX).taking(0, MOST), BAD);
    }

    private static void p14PouchJustEnough() {
        takingDue(on("R05B0210B0310"), 3, 5, 3, 0);
    }

    private static void p14PouchOneTooFew() {
        takingDue(on("R04B0210B0310"), 3, NONE, NONE, NONE);
    }

    private static void p14EmptyPouch() {
        takingDue(on("R00B0110"), 1, NONE, NONE, NONE);
        takingDue(on("R00B0110"), 0, 0, 0, 0);
    }

    private static void p14EnoughEachTime() {
        takingDue(on("R09B0910B0110"), 3, NONE, NONE, NONE);
        takingDue(on("R09B0110B0910"), 3, NONE, NONE, NONE);
    }

    private static void p14BadThoughItCanNotBe() {
        due("what 3", on("R00B0110").taking(1, 3), BAD);
    }

    private static void p14QuarrelsCount() {
        takingDue(given("R09B0110B0220E01", 1), 2, 2, 2, 0);
        takingDue(given("R09B0120B0210E01", 1), 2, 2, 1, 0);
    }

    private static void p14EnviousOfWhoCameAheadOfIt() {
        takingDue(on("R99B0910B2110"), 3, 18, 3, 0);
        takingDue(on("R99B0910B2110"), 2, 1, 2, 0);
    }

    private static void p14EnviousOfWhoHadComeAlready() {
        takingDue(given("R99B0910B2110", 1), 2, 9, 3, 0);
        takingDue(given("R17B0910B2110", 1), 2, NONE, NONE, NONE);
    }

    private static void p14NoDusk() {
        takingDue(on("R02B3110B0110"), 3, 2, 3, 0);
    }

    private static void p14GatesAsManyAsCanBe() {
        takingDue(on("R09B0150G004G005G006"), 1, 1, 1, 2);
        takingDue(on("R09B0150G004G005G005"), 1, 1, 1, 3);
    }

    private static void p14GatesFromTheFirstThatIsNot() {
        takingDue(on("R09B0150G006G005"), 1, 1, 1, 0);
    }

    private static void p14GatesThatAreOpenCount() {
        DumplingBand band = given("R02B0150B0110G005G006", 1);
        band.open();
        band.dusk();
        band.dusk();
        takingDue(band, 0, 0, 0, 1);
    }

    private static void p14NothingIsChanged() {
        DumplingBand band = given(FOUR, 1);
        band.taking(14, 2);
        rowDue("about", about(band), 4, 10, 1, 3, 0, 1, 2, 0, 1, 0, 34, 1);
    }

    // ---- promise 15: cheapest

    private static void p15WhatUnder0() {
        due("cheapest(-1)", on(FOUR).cheapest(-1), BAD);
        due("cheapest(least)", on(FOUR).cheapest(LEAST), BAD);
    }

    private static void p15WhatOver1() {
        due("cheapest(2)", on(FOUR).cheapest(2), BAD);
        due("cheapest(most)", on(FOUR).cheapest(MOST), BAD);
    }

    private static void p15BadThoughThereIsNone() {
        due("cheapest(2)", on("R00G001").cheapest(2), BAD);
        due("cheapest(-1)", on("R00G001").cheapest(-1), BAD);
    }

    private static void p15NoGates() {
        cheapestDue(on(SIX), 0, 0);
        cheapestDue(new DumplingBand(), 0, 0);
    }

    private static void p15AllAreOpen() {
        DumplingBand band = given("R09B0110B0110G001", 1);
        band.open();
        cheapestDue(band, 0, 0);
    }

    private static void p15TheBandCanOpenAll() {
        cheapestDue(given("R09B0110B0110G001", 1), 0, 0);
    }

    private static void p15None() {
        cheapestDue(on("R09B0110G002"), NONE, NONE);
        cheapestDue(on("R09G001"), NONE, NONE);
    }

    private static void p15NotAllGatesIsNone() {
        cheapestDue(on("R09B0110G001G001G002"), NONE, NONE);
    }

    private static void p15NobodyIsNext() {
        cheapestDue(given("R09B0110G002", 1), NONE, NONE);
        cheapestDue(given("R09B0110G001", 1), 0, 0);
    }

    private static void p15PouchJustEnough() {
        cheapestDue(on("R09B0910G001"), 9, 1);
    }

    private static void p15PouchOneTooFew() {
        cheapestDue(on("R08B0910G001"), NONE, NONE);
    }

    private static void p15OfLikeCostTheLeastAsBits() {
        cheapestDue(on("R09B0110B0210B0110B0110G001"), 1, 1);
        cheapestDue(on("R09B0210B0110B0110B0210G002"), 2, 6);
    }

    private static void p15LeastCostAheadOfBits() {
        cheapestDue(on("R09B0210B0210B0210B0210B0210B0110G001"), 1, 32);
    }

    private static void p15SetOfThoseToComeAlone() {
        cheapestDue(passed(on("R09B0110B0210G001"), 1), 2, 2);
    }

    private static void p15EnviousOfWhoHadComeAlready() {
        cheapestDue(given("R99B0910B2111B0511G101", 1), 5, 4);
    }

    private static void p15AllSix() {
        cheapestDue(on(SIX + "G054"), 21, 63);
    }

    // ---- promise 16: farthest

    private static void p16WhatUnder0() {
        due("farthest(-1)", on(FOUR).farthest(-1), BAD);
        due("farthest(least)", on(FOUR).farthest(LEAST), BAD);
    }

    private static void p16WhatOver2() {
        due("farthest(3)", on(FOUR).farthest(3), BAD);
        due("farthest(most)", on(FOUR).farthest(MOST), BAD);
    }

    private static void p16NoGates() {
        farthestDue(on(SIX), 0, 0, 0);
        farthestDue(new DumplingBand(), 0, 0, 0);
    }

    private static void p16NoGateCanBe() {
        farthestDue(on("R09B0110G002"), 0, 0, 0);
    }

    private static void p16EmptyPouch() {
        farthestDue(on("R00B0190G002"), 0, 0, 0);
    }

    private static void p16NobodyIsNext() {
        farthestDue(given("R09B0110G001G002", 1), 1, 0, 0);
    }

    private static void p16MostGatesAheadOfCost() {
        farthestDue(on("R99B0110B0990G001G009"), 2, 9, 2);
    }

    private static void p16OfLikeGatesTheLeastCost() {
        farthestDue(on("R99B0310B0210B0110G001G054"), 1, 1, 4);
    }

    private static void p16OfLikeCostTheLeastAsBits() {
        farthestDue(on("R99B0310B0110B0110G001G054"), 1, 1, 2);
        farthestDue(on("R99B0210B0110B0110B0210G002"), 1, 2, 6);
    }

    private static void p16PouchJustEnough() {
        farthestDue(on("R10B0110B0990G001G010"), 2, 10, 3);
        farthestDue(on("R09B0110B0990G001G010"), 1, 1, 1);
    }

    private static void p16SetOfThoseToComeAlone() {
        farthestDue(passed(on("R09B0110B0210G001"), 1), 1, 2, 2);
    }

    private static void p16EnviousOfWhoHadComeAlready() {
        farthestDue(given("R99B0910B2111G101", 1), 1, 9, 2);
    }

    private static void p16AllThree() {
        farthestDue(on(SIX + "G009G018G054"), 3, 21, 63);
    }

    private static void p16GatesThatAreOpenCount() {
        DumplingBand band = given("R01B0110B0110G001G001", 1);
        band.open();
        band.dusk();
        farthestDue(band, 1, 0, 0);
    }

    // ---- promise 17: judged

    private static void p17NUnder1() {
        due("judged(0, 0)", on(SIX).judged(0, 0), BAD);
        due("judged(-1, 0)", on(SIX).judged(-1, 0), BAD);
        due("judged(least, 0)", on(SIX).judged(LEAST, 0), BAD);
    }

    private static void p17LeastN() {
        due("judged(1, 0)", on(SIX).judged(1, 0), NONE);
    }

    private static void p17GreatestN() {
        due("judged(8, 22222222)", on(SIX).judged(8, 22222222), NONE);
    }

    private static void p17NOver8() {
        due("judged(9, 0)", on(SIX).judged(9, 0), BAD);
        due("judged(9, 222222222)", on(SIX).judged(9, 222222222), BAD);
        due("judged(most, 0)", on(SIX).judged(MOST, 0), BAD);
    }

    private static void p17RowUnder0() {
        due("judged(1, -1)", on(SIX).judged(1, -1), BAD);
        due("judged(8, least)", on(SIX).judged(8, LEAST), BAD);
    }

    private static void p17LeastRow() {
        due("judged(6, 0)", on(SIX).judged(6, 0), NONE);
        due("judged(7, 0)", on(SIX).judged(7, 0), 6);
    }

    private static void p17GreatestRowOfEachN() {
        int row = 9;
        for (int n = 1; n <= 8; n++) {
            due("judged(" + n + ", " + row + ")", on(SIX).judged(n, row), 0);
            row = 10 * row + 9;
        }
    }

    private static void p17OneFigureTooManyOfEachN() {
        int row = 10;
        for (int n = 1; n <= 8; n++) {
            due("judged(" + n + ", " + row + ")", on(SIX).judged(n, row), BAD);
            row = 10 * row;
        }
    }

    private static void p17RowOfTenFigures() {
        due("judged(8, most)", on(SIX).judged(8, MOST), BAD);
        due("judged(8, 1000000000)", on(SIX).judged(8, 1000000000), BAD);
    }

    private static void p17GreatestFigureThatThereIs() {
        due("judged(1, 3)", given("R09B0110G001", 1).judged(1, 3), NONE);
    }

    private static void p17NoSuchFigure() {
        for (int figure = 4; figure <= 9; figure++) {
            due("judged(1, " + figure + ")", given("R09B0110G001", 1).judged(1, figure), 0);
        }
    }

    private static void p17FirstFigureIsTheHighest() {
        due("a DUSK, a GATE", on("R09B0110G001").judged(2, 23), 1);
        due("a GATE, a DUSK", on("R09B0110G001").judged(2, 32), 0);
        due("GIVEN, a GATE", on("R09B0110G001").judged(2, 13), NONE);
    }

    private static void p17FirstPlaceAndLast() {
        due("the first", on(SIX).judged(8, 32222222), 0);
        due("the last", on(SIX).judged(8, 22222223), 7);
        due("of two the first", on(SIX).judged(8, 22322223), 2);
    }

    private static void p17NobodyToPassOrToGive() {
        due("PASSED", given(SIX, 6).judged(1, 0), 0);
        due("GIVEN", given(SIX, 6).judged(1, 1), 0);
        due("no ROAD", new DumplingBand().judged(2, 20), 1);
    }

    private static void p17GivenJustEnough() {
        due("enough", on("R03B0110B0210").judged(2, 11), NONE);
        due("one too few", on("R02B0110B0210").judged(2, 11), 1);
    }

    private static void p17EnviousOfWhoHadComeAlready() {
        due("enough", given("R18B0910B2110", 1).judged(1, 1), NONE);
        due("one too few", given("R17B0910B2110", 1).judged(1, 1), 0);
    }

    private static void p17DuskCanBeAlways() {
        due("no ROAD", new DumplingBand().judged(8, 22222222), NONE);
    }

    private static void p17GateAsItIsWanted() {
        due("enough", given("R09B0150G005", 1).judged(1, 3), NONE);
        due("one too little", given("R09B0150G006", 1).judged(1, 3), 0);
        due("all are open", given("R09B0150G005", 1).judged(2, 33), 1);
    }

    private static void p17EachFollowsTheOneAhead() {
        due("PASSED, GIVEN, GIVEN", on("R09B0910B0110B0110").judged(3, 11), NONE);
        due("the TRAITOR is gone", given("R09B3110G001", 1).judged(2, 23), 1);
        due("ahead of the DUSK", given("R09B3110G001", 1).judged(2, 32), NONE);
    }

    private static void p17MoreActsThanTheRowHolds() {
        due("a full row", slept(on(SIX), 14).judged(8, 22222222), NONE);
    }

    private static void p17NothingIsChanged() {
        DumplingBand band = given("R09B0110B0110G001", 1);
        band.judged(3, 123);
        rowDue("about", about(band), 2, 8, 1, 1, 0, 1, 1, 0, 1, 0, 17, 1);
    }

    // ---- promise 18: orders

    private static void p18EmptySet() {
        due("no ROAD", new DumplingBand().orders(0), 1);
        due("six", on(SIX).orders(0), 1);
    }

    private static void p18OneAlone() {
        for (int beast = 0; beast < 6; beast++) {
            due("orders", on("R00B2110B2110B2110B2110B2110B2110").orders(1 << beast), 1);
        }
    }

    private static void p18FullSet() {
        due("orders", on(SIX).orders(63), 720);
        due("orders of four", on("R00B0110B0110B0110B0110").orders(15), 24);
    }

    private static void p18SetUnder0() {
        due("orders(-1)", on(SIX).orders(-1), BAD);
        due("orders(least)", on(SIX).orders(LEAST), BAD);
    }

    private static void p18SetOverAll() {
        due("orders(64)", on(SIX).orders(64), BAD);
        due("orders(16) of four", on(FOUR).orders(16), BAD);
        due("orders(17) of four", on(FOUR).orders(17), BAD);
        due("orders(1) of none", new DumplingBand().orders(1), BAD);
        due("orders(most)", on(SIX).orders(MOST), BAD);
    }

    private static void p18NobodyAsksForMoreWhenLike() {
        due("like", on("R00B2310B0310").orders(3), 2);
        due("one more", on("R00B2310B0410").orders(3), 1);
        due("one less", on("R00B2310B0210").orders(3), 2);
    }

    private static void p18HalvedIsGivenHalfUp() {
        due("half of 5: 3", on("R00B2310B1510").orders(3), 2);
        due("half of 5: 3, but 2", on("R00B2210B1510").orders(3), 1);
    }

    private static void p18OneOrderAlone() {
        due("orders", on("R00B2610B2510B2410B2310B2210B2110").orders(63), 1);
    }

    private static void p18QuarrelsDoNotCount() {
        due("orders", on("R99B0510B0590B2110E01E02E12").orders(7), 2);
    }

    private static void p18DumplingsDoNotCount() {
        due("orders", on("R00B0910B0910").orders(3), 2);
    }

    private static void p18AnEmptyBandAtFirst() {
        due("orders", given("R99B0910B2110", 1).orders(2), 1);
    }

    private static void p18OfBeastsThatCameOrPassed() {
        due("orders", passed(given(SIX, 3), 3).orders(63), 720);
    }

    private static void p18NothingIsLeftOfTheSetAheadOfIt() {
        DumplingBand band = on("R00B2110B0210B0310");
        due("orders(7)", band.orders(7), 2);
        due("orders(6)", band.orders(6), 2);
        due("orders(5)", band.orders(5), 1);
        due("orders(7)", band.orders(7), 2);
    }

    // ---- promise 19: lasts

    private static void p19NobodyIsThere() {
        due("no ROAD", new DumplingBand().lasts(), NONE);
        due("nobody came", on(SIX).lasts(), NONE);
        due("all left", slept(given("R01B0110", 1), 1).lasts(), NONE);
    }

    private static void p19EmptyPouch() {
        due("lasts", given("R01B0110", 1).lasts(), 1);
    }

    private static void p19OneDumplingTooFew() {
        due("lasts", given("R04B0110B0110B0110", 3).lasts(), 1);
        due("lasts", given("R05B0110B0110B0110", 3).lasts(), 1);
    }

    private static void p19JustEnoughForOneDusk() {
        due("lasts", given("R06B0110B0110B0110", 3).lasts(), 2);
    }

    private static void p19MostDusks() {
        due("98 DUMPLINGS for one", given("R99B0110", 1).lasts(), 99);
        due("97 DUMPLINGS for one", given("R98B0110", 1).lasts(), 98);
    }

    private static void p19TraitorAtTheFirst() {
        due("lasts", given("R99B0110B3110", 2).lasts(), 1);
    }

    private static void p19FromNowOn() {
        due("lasts", slept(given("R99B0110", 1), 10).lasts(), 89);
    }

    private static void p19NothingIsChanged() {
        DumplingBand band = given("R09B0110", 1);
        band.lasts();
        rowDue("about", about(band), 1, 8, 1, 1, 0, NONE, 0, 0, 1, 0, 8, 1);
    }

    // ---- promise 20: feeds

    private static void p20NobodyIsThere() {
        due("no ROAD", new DumplingBand().feeds(), 0);
        due("nobody came", on(SIX).feeds(), 0);
    }

    private static void p20EmptyPouch() {
        due("feeds", given("R03B0110B0110B0110", 3).feeds(), 0);
    }

    private static void p20OneDumpling() {
        due("feeds", given("R04B0110B0110B0110", 3).feeds(), 1);
    }

    private static void p20OneTooFew() {
        due("feeds", given("R05B0110B0110B0110", 3).feeds(), 2);
    }

    private static void p20JustEnough() {
        due("feeds", given("R06B0110B0110B0110", 3).feeds(), 3);
    }

    private static void p20OneMore() {
        due("feeds", given("R07B0110B0110B0110", 3).feeds(), 3);
    }

    private static void p20FullBand() {
        due("feeds", given(SIX, 6).feeds(), 6);
    }

    private static void p20TraitorEats() {
        due("feeds", given("R99B3110", 1).feeds(), 1);
        due("the last one", given("R03B3110B0110", 2).feeds(), 1);
    }

    private static void p20NothingIsChanged() {
        DumplingBand band = given("R09B0110", 1);
        band.feeds();
        rowDue("about", about(band), 1, 8, 1, 1, 0, NONE, 0, 0, 1, 0, 8, 1);
    }
}
