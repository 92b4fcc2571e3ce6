/** Edges that the document names for gates, boats, shares: promises 21 to 25. */
public final class GateEdgesTest extends Edges {
    public static void main(String[] args) {
        runAll(GateEdgesTest.class);
    }

    private static void oddsDue(DumplingBand band, int gate, int above, int below) {
        rowDue("odds at " + gate, new int[] {band.odds(gate, true), band.odds(gate, false)}, above, below);
    }

    // ---- promise 21: odds

    private static void p21FirstAndLastGate() {
        DumplingBand band = given("R09B0110B0122G002G154G201", 2);
        oddsDue(band, 0, 1, 10);
        oddsDue(band, 2, 1, 5);
    }

    private static void p21UnderTheFirst() {
        oddsDue(given(FOUR, 2), -1, UNKNOWN, UNKNOWN);
        oddsDue(given(FOUR, 2), LEAST, UNKNOWN, UNKNOWN);
    }

    private static void p21OverTheLast() {
        oddsDue(given(FOUR, 2), 2, UNKNOWN, UNKNOWN);
        oddsDue(given("R09B0110G001G001G001", 1), 3, UNKNOWN, UNKNOWN);
        oddsDue(given(FOUR, 2), MOST, UNKNOWN, UNKNOWN);
        oddsDue(new DumplingBand(), 0, UNKNOWN, UNKNOWN);
    }

    private static void p21NobodyIsThere() {
        oddsDue(on(FOUR), 0, 0, 1);
    }

    private static void p21NobodyHasItsSkill() {
        oddsDue(given("R09B0190G101", 1), 0, 0, 1);
    }

    private static void p21OneAlone() {
        int[][] want = {{1, 10}, {1, 5}, {3, 10}, {2, 5}, {1, 2}, {3, 5}, {7, 10}, {4, 5}, {9, 10}};
        for (int strength = 1; strength <= 9; strength++) {
            oddsDue(given("R09B01" + strength + "0G054", 1), 0, want[strength - 1][0], want[strength - 1][1]);
        }
    }

    private static void p21TwoByThemselves() {
        oddsDue(given("R09B0150B0150G001", 2), 0, 3, 4);
        oddsDue(given("R09B0120B0130G001", 2), 0, 11, 25);
    }

    private static void p21SixOfTheLeast() {
        oddsDue(given("R99B0110B0110B0110B0110B0110B0110G001", 6), 0, 468559, 1000000);
    }

    private static void p21SixOfTheGreatest() {
        oddsDue(given(SIX + "G001", 6), 0, 999999, 1000000);
    }

    private static void p21OnlyThoseOfTheBand() {
        oddsDue(Checks.giveAll(passed(on("R09B0190B0110B0190G001"), 1), 1), 0, 1, 10);
    }

    private static void p21OnlyThoseOfItsSkill() {
        oddsDue(given("R09B0110B0191B0192B0193G001", 4), 0, 1, 10);
    }

    private static void p21NothingIsChanged() {
        DumplingBand band = given("R09B0190G001", 1);
        band.odds(0, true);
        rowDue("about", about(band), 1, 8, 1, 9, 0, NONE, 1, 0, 1, 0, 12, 1);
    }

    // ---- promise 22: first

    private static void p22FirstAndLastGate() {
        DumplingBand band = given("R09B0112B0110G001G101G201", 2);
        due("first(0)", band.first(0), 1);
        due("first(2)", band.first(2), 0);
    }

    private static void p22UnderTheFirst() {
        due("first(-1)", given(FOUR, 2).first(-1), UNKNOWN);
        due("first(least)", given(FOUR, 2).first(LEAST), UNKNOWN);
    }

    private static void p22OverTheLast() {
        due("first(2) of two", given(FOUR, 2).first(2), UNKNOWN);
        due("first(3) of three", given("R09B0110G001G001G001", 1).first(3), UNKNOWN);
        due("first(most)", given(FOUR, 2).first(MOST), UNKNOWN);
        due("first(0) of none", given(SIX, 6).first(0), UNKNOWN);
    }

    private static void p22NobodyIsThere() {
        due("first", on(FOUR).first(0), NONE);
    }

    private static void p22NobodyHasItsSkill() {
        due("first", given("R09B0190B0192G101", 2).first(0), NONE);
    }

    private static void p22Beast0IsNotNone() {
        due("first", given("R09B0110G001", 1).first(0), 0);
    }

    private static void p22OfLikeOnesTheLeast() {
        due("of all six", given(SIX + "G001", 6).first(0), 0);
        due("of those of greatest STRENGTH", given("R09B0140B0150B0150G001", 3).first(0), 1);
    }

    private static void p22GreatestStrength() {
        due("by one", given("R09B0180B0190B0180G001", 3).first(0), 1);
        due("the last", given("R09B0110B0120B0130G001", 3).first(0), 2);
    }

    private static void p22OnlyThoseOfTheBand() {
        due("first", Checks.giveAll(passed(on("R09B0190B0110B0190G001"), 1), 1).first(0), 1);
    }

    private static void p22OnlyThoseOfItsSkill() {
        due("first", given("R09B0191B0110G001", 2).first(0), 1);
    }

    // ---- promise 23: boat

    private static void boatsDue(DumplingBand band, int one, int two, int three) {
        rowDue("boats", new int[] {band.boat(1), band.boat(2), band.boat(3)}, one, two, three);
    }

    private static void p23KUnder1() {
        due("boat(0)", given(SIX, 2).boat(0), BAD);
        due("boat(-1)", given(SIX, 2).boat(-1), BAD);
        due("boat(least)", given(SIX, 2).boat(LEAST), BAD);
    }

    private static void p23KOver3() {
        due("boat(4)", given(SIX, 2).boat(4), BAD);
        due("boat(most)", given(SIX, 2).boat(MOST), BAD);
    }

    private static void p23BadThoughThereIsNobody() {
        due("boat(0)", new DumplingBand().boat(0), BAD);
        due("boat(4)", new DumplingBand().boat(4), BAD);
    }

    private static void p23Nobody() {
        boatsDue(new DumplingBand(), 0, 0, 0);
        boatsDue(on(SIX), 0, 0, 0);
        boatsDue(slept(given("R01B0110", 1), 1), 0, 0, 0);
    }

    private static void p23One() {
        boatsDue(given(SIX, 1), 1, 1, 1);
    }

    private static void p23TheLastAlone() {
        boatsDue(Checks.giveAll(passed(on(SIX), 5), 1), 1, 1, 1);
    }

    private static void p23AsManyAsItHolds() {
        due("one", given(SIX, 1).boat(1), 1);
        due("two", given(SIX, 2).boat(2), 1);
        due("three", given(SIX, 3).boat(3), 1);
    }

    private static void p23OneMoreThanItHolds() {
        due("two", given(SIX, 2).boat(1), 3);
        due("three", given(SIX, 3).boat(2), 3);
        due("four", given(SIX, 4).boat(3), 3);
    }

    private static void p23FullBand() {
        boatsDue(given(SIX, 6), 11, 5, 3);
    }

    private static void p23EnemiesThatAreNotOfTheBandDoNotCount() {
        boatsDue(given("R99B0190B0110B0190E01E12", 3), 3, 1, 1);
        boatsDue(Checks.giveAll(passed(on("R99B0190B0110B0190E01E02"), 1), 2), 3, 1, 1);
    }

    // ---- promise 24: share

    private static void p24FirstAndLastBeast() {
        DumplingBand band = given("R99B0110B0110B0110B0110B0110B0150", 6);
        due("share(0, 10)", band.share(0, 10), 1);
        due("share(5, 10)", band.share(5, 10), 5);
    }

    private static void p24UnderTheFirst() {
        due("share(-1, 1)", given(FOUR, 2).share(-1, 1), UNKNOWN);
        due("share(least, 1)", given(FOUR, 2).share(LEAST, 1), UNKNOWN);
    }

    private static void p24OverTheLast() {
        due("share(4, 1) of four", given(FOUR, 2).share(4, 1), UNKNOWN);
        due("share(6, 1) of six", given(SIX, 6).share(6, 1), UNKNOWN);
        due("share(most, 1)", given(FOUR, 2).share(MOST, 1), UNKNOWN);
        due("no ROAD", new DumplingBand().share(0, 1), UNKNOWN);
    }

    private static void p24NoCoins() {
        due("share(0, 0)", given("R09B0190", 1).share(0, 0), 0);
    }

    private static void p24CoinsUnder0() {
        due("share(0, -1)", given("R09B0190", 1).share(0, -1), BAD);
        due("share(0, least)", given("R09B0190", 1).share(0, LEAST), BAD);
    }

    private static void p24MostCoins() {
        due("share(0, 99)", given("R09B0190", 1).share(0, 99), 99);
    }

    private static void p24CoinsOver99() {
        due("share(0, 100)", given("R09B0190", 1).share(0, 100), BAD);
        due("share(0, most)", given("R09B0190", 1).share(0, MOST), BAD);
    }

    private static void p24UnknownIsToldAheadOfBad() {
        due("share(1, 100)", given("R09B0190", 1).share(1, 100), UNKNOWN);
        due("share(-1, -1)", given("R09B0190", 1).share(-1, -1), UNKNOWN);
    }

    private static void p24BadForOneWhoIsNotOfTheBand() {
        due("share(0, 100)", on("R09B0190").share(0, 100), BAD);
        due("share(0, -1)", on("R09B0190").share(0, -1), BAD);
    }

    private static void p24NotOfTheBand() {
        due("to come", given("R09B0190B0190", 1).share(1, 99), 0);
        due("passed", passed(on("R09B0190"), 1).share(0, 99), 0);
        due("left", given("R09B0110B0120E01", 2).share(0, 99), 0);
        due("nobody is", on("R09B0190").share(0, 99), 0);
    }

    private static void p24Cut() {
        DumplingBand band = given("R09B0120B0110", 2);
        rowDue("of 1", new int[] {band.share(0, 1), band.share(1, 1)}, 0, 0);
        rowDue("of 2", new int[] {band.share(0, 2), band.share(1, 2)}, 1, 0);
        rowDue("of 3", new int[] {band.share(0, 3), band.share(1, 3)}, 2, 1);
    }

    private static void p24WhatIsLeftOverGoesToTheBoy() {
        DumplingBand band = given("R09B0110B0110B0110", 3);
        rowDue("of 5", new int[] {band.share(0, 5), band.share(1, 5), band.share(2, 5)}, 1, 1, 1);
    }

    private static void p24FullBand() {
        DumplingBand band = given(SIX, 6);
        due("share(0, 99)", band.share(0, 99), 16);
        due("share(5, 99)", band.share(5, 99), 16);
    }

    // ---- promise 25: envies

    private static void p25CoinsUnder0() {
        due("envies(-1)", given(SIX, 6).envies(-1), BAD);
        due("envies(least)", given(SIX, 6).envies(LEAST), BAD);
    }

    private static void p25NoCoins() {
        due("envies(0)", given(SIX, 6).envies(0), 63);
    }

    private static void p25MostCoins() {
        due("envies(99)", given(SIX, 6).envies(99), 0);
        due("envies(99), 9 of 54", given("R99B0910B0190B0190B0190B0190B0190", 6).envies(99), 1);
    }

    private static void p25CoinsOver99() {
        due("envies(100)", given(SIX, 6).envies(100), BAD);
        due("envies(most)", given(SIX, 6).envies(MOST), BAD);
    }

    private static void p25BadThoughThereIsNobody() {
        due("envies(-1)", new DumplingBand().envies(-1), BAD);
        due("envies(100)", new DumplingBand().envies(100), BAD);
    }

    private static void p25Nobody() {
        due("no ROAD", new DumplingBand().envies(0), 0);
        due("nobody came", on(SIX).envies(0), 0);
        due("left", slept(given("R09B3910", 1), 1).envies(0), 0);
    }

    private static void p25AsMuchIsNotLess() {
        due("as much", given("R09B0510", 1).envies(5), 0);
        due("one less", given("R09B0510", 1).envies(4), 1);
        due("one more", given("R09B0510", 1).envies(6), 0);
    }

    private static void p25WhatItWasGivenNotItsPrice() {
        due("HALVED", given("R09B1910", 1).envies(5), 0);
        due("HALVED, one less", given("R09B1910", 1).envies(4), 1);
        due("ENVIOUS: 9 of 18", given("R99B0910B2110", 2).envies(17), 3);
        due("ENVIOUS: 9 of 18", given("R99B0910B2110", 2).envies(18), 0);
    }

    private static void p25OneOfTwo() {
        due("the first", given("R99B0910B0110", 2).envies(2), 1);
        due("the last", given("R99B0110B0910", 2).envies(2), 2);
    }
}
