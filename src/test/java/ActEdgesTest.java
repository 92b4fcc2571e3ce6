/** Edges that the document names for acts: promises 9 to 13, and what its Terms tell of them. */
public final class ActEdgesTest extends Edges {
    /** ACTS that are remembered at most. */
    private static final int ROW = 14;

    public static void main(String[] args) {
        runAll(ActEdgesTest.class);
    }

    // ---- promise 9: give

    private static void p9NobodyIsNextWithoutARoad() {
        due("give", new DumplingBand().give(), LATE);
    }

    private static void p9NobodyIsNextWithoutBeasts() {
        due("give", on("R99").give(), LATE);
    }

    private static void p9NobodyIsNextBehindTheLast() {
        due("all came", given(SIX, 6).give(), LATE);
        due("all passed", passed(on(SIX), 6).give(), LATE);
    }

    private static void p9TheLastIsNext() {
        due("give", given(SIX, 5).give(), 0);
    }

    private static void p9DumplingsJustEnough() {
        DumplingBand band = on("R09B0910");
        due("give", band.give(), 0);
        due("DUMPLINGS", band.about(1), 0);
        due("THE BAND", band.about(2), 1);
    }

    private static void p9OneDumplingTooFew() {
        due("give", on("R08B0910").give(), FULL);
    }

    private static void p9EmptyPouch() {
        due("give", on("R00B0110").give(), FULL);
        due("give HALVED of 1", on("R00B1110").give(), FULL);
    }

    private static void p9HalvedJustEnough() {
        due("3 for half of 5", on("R03B1510").give(), 0);
        due("2 for half of 5", on("R02B1510").give(), FULL);
    }

    private static void p9EnviousJustEnough() {
        due("7 for one that envies 7", given("R14B0710B2110", 1).give(), 0);
        due("6 for one that envies 7", given("R13B0710B2110", 1).give(), FULL);
    }

    private static void p9LateIsToldAheadOfFull() {
        due("nobody is next, no DUMPLINGS", given("R01B0110", 1).give(), LATE);
    }

    private static void p9FullChangesNothing() {
        DumplingBand band = given("R05B0410B0210", 1);
        due("give", band.give(), FULL);
        rowDue("about", about(band), 2, 1, 1, 1, 0, 1, 0, 0, 1, 0, 13, 1);
        due("what it was given", band.beast(1, 6), NONE);
    }

    private static void p9LateChangesNothing() {
        DumplingBand band = given("R05B0410", 1);
        due("give", band.give(), LATE);
        rowDue("about", about(band), 1, 1, 1, 1, 0, NONE, 0, 0, 1, 0, 8, 1);
    }

    private static void p9TheOneBehindItIsNext() {
        DumplingBand band = on(SIX);
        for (int next = 0; next < 6; next++) {
            due("next", band.about(5), next);
            band.give();
        }
        due("nobody", band.about(5), NONE);
    }

    private static void p9NobodyQuarrels() {
        due("no ENEMIES", given(SIX, 1).give(), 0);
        due("an empty BAND", on("R09B0110B0110E01").give(), 0);
    }

    private static void p9TheOneOfTheBandHasLessStrength() {
        DumplingBand band = given("R09B0110B0120E01", 1);
        due("give", band.give(), 1);
        due("THE BAND", band.about(2), 2);
    }

    private static void p9TheNewOneHasLessStrength() {
        DumplingBand band = given("R09B0120B0110E01", 1);
        due("give", band.give(), 2);
        due("THE BAND", band.about(2), 1);
    }

    private static void p9OfLikeOnesTheNewOneLeaves() {
        DumplingBand band = given("R09B0110B0110E01", 1);
        due("give", band.give(), 2);
        due("THE BAND", band.about(2), 1);
    }

    private static void p9ByNumberAsLongAsItIsOfTheBand() {
        DumplingBand weakFirst = given("R09B0110B0130B0150B0120E30E31E32", 3);
        due("0 leaves, then the new one", weakFirst.give(), 9);
        DumplingBand strongFirst = given("R09B0130B0110B0150B0120E30E31E32", 3);
        due("the new one leaves, 1 has no quarrel", strongFirst.give(), 8);
        due("THE BAND", strongFirst.about(2), 7);
    }

    private static void p9AllOfTheBandLeave() {
        DumplingBand band = given("R99B0110B0110B0110B0110B0110B0190E05E15E25E35E45", 5);
        due("give", band.give(), 31);
        due("THE BAND", band.about(2), 32);
        due("DUMPLINGS: none come back", band.about(1), 93);
    }

    private static void p9WhoPassedHasNoQuarrel() {
        DumplingBand band = passed(on("R09B0190B0110E01"), 1);
        due("give", band.give(), 0);
    }

    private static void p9WhoLeftHasNoQuarrel() {
        DumplingBand band = given("R09B0110B0120B0110E01E02", 2);
        due("give", band.give(), 0);
        due("THE BAND", band.about(2), 6);
    }

    private static void p9HasWhatItAsksThoughItLeaves() {
        DumplingBand band = given("R09B0190B0510E01", 2);
        due("DUMPLINGS", band.about(1), 3);
    }

    private static void p9OpenGatesAndTheDayStay() {
        DumplingBand band = given("R09B0110B0110G001", 1);
        band.open();
        band.dusk();
        band.give();
        due("open", band.about(7), 1);
        due("THE DAY", band.about(4), 1);
    }

    // ---- promise 10: pass

    private static void p10NobodyIsNextWithoutARoad() {
        due("pass", new DumplingBand().pass(), LATE);
    }

    private static void p10NobodyIsNextWithoutBeasts() {
        due("pass", on("R99").pass(), LATE);
    }

    private static void p10NobodyIsNextBehindTheLast() {
        due("all passed", passed(on(SIX), 6).pass(), LATE);
        due("all came", given(SIX, 6).pass(), LATE);
    }

    private static void p10WhoIsNextThen() {
        DumplingBand band = on(SIX);
        for (int next = 1; next < 6; next++) {
            due("pass", band.pass(), next);
        }
    }

    private static void p10TheLastPasses() {
        due("of six", passed(on(SIX), 5).pass(), NONE);
        due("of one", on("R09B0110").pass(), NONE);
    }

    private static void p10WithAnEmptyPouch() {
        due("pass", on("R00B0110B0110").pass(), 1);
    }

    private static void p10ItDoesNotCome() {
        DumplingBand band = passed(on(SIX), 1);
        rowDue("about", about(band), 6, 99, 0, 0, 0, 1, 0, 0, 1, 0, 33, 0);
    }

    private static void p10LateChangesNothing() {
        DumplingBand band = passed(on("R09B0110"), 1);
        due("pass", band.pass(), LATE);
        rowDue("about", about(band), 1, 9, 0, 0, 0, NONE, 0, 0, 1, 0, 8, 0);
    }

    // ---- promise 11: dusk

    private static void p11NobodyIsThere() {
        DumplingBand band = new DumplingBand();
        due("dusk", band.dusk(), 0);
        due("THE DAY", band.about(4), 1);
        due("ACTS", band.about(8), 1);
    }

    private static void p11NobodyEatsNothing() {
        due("DUMPLINGS", slept(on(SIX), 1).about(1), 99);
    }

    private static void p11EmptyPouchAllLeave() {
        DumplingBand band = given("R03B0110B0110B0110", 3);
        due("dusk", band.dusk(), 7);
        due("THE BAND", band.about(2), 0);
        due("DUMPLINGS", band.about(1), 0);
    }

    private static void p11OneDumplingForTheFirst() {
        DumplingBand band = given("R04B0110B0110B0110", 3);
        due("dusk", band.dusk(), 6);
        due("THE BAND", band.about(2), 1);
        due("DUMPLINGS", band.about(1), 0);
    }

    private static void p11OneDumplingTooFew() {
        DumplingBand band = given("R05B0110B0110B0110", 3);
        due("dusk", band.dusk(), 4);
        due("THE BAND", band.about(2), 3);
    }

    private static void p11JustEnoughForAll() {
        DumplingBand band = given("R06B0110B0110B0110", 3);
        due("dusk", band.dusk(), 0);
        due("THE BAND", band.about(2), 7);
        due("DUMPLINGS", band.about(1), 0);
    }

    private static void p11ByNumberNotByWhoIsThere() {
        DumplingBand band = Checks.giveAll(passed(on("R03B0110B0110B0110"), 1), 2);
        due("1 eats, 2 leaves", band.dusk(), 4);
        due("THE BAND", band.about(2), 2);
    }

    private static void p11FullBand() {
        DumplingBand band = given(SIX, 6);
        due("dusk", band.dusk(), 0);
        due("DUMPLINGS", band.about(1), 72);
    }

    private static void p11TraitorLeavesThoughItEats() {
        DumplingBand band = given("R09B3110B0110", 2);
        due("dusk", band.dusk(), 1);
        due("DUMPLINGS", band.about(1), 5);
    }

    private static void p11TraitorWithoutADumpling() {
        due("dusk", given("R01B3110", 1).dusk(), 1);
    }

    private static void p11TraitorEatsTheLastDumpling() {
        DumplingBand band = given("R03B3110B0110", 2);
        due("both leave", band.dusk(), 3);
        due("DUMPLINGS", band.about(1), 0);
    }

    private static void p11EachTraitorLeaves() {
        due("dusk", given("R99B3110B0110B3110B1110B3110B2110", 6).dusk(), 21);
    }

    private static void p11TraitorThatIsNotOfTheBandIsNotTold() {
        due("to come", on("R99B3110").dusk(), 0);
        due("passed", passed(on("R99B3110"), 1).dusk(), 0);
        DumplingBand gone = slept(given("R99B3110", 1), 1);
        due("left", gone.dusk(), 0);
    }

    private static void p11OtherKindsStay() {
        due("dusk", given("R99B0110B1110B2110", 3).dusk(), 0);
    }

    private static void p11TheDayIsOneMore() {
        DumplingBand band = on(SIX);
        for (int day = 1; day <= 20; day++) {
            band.dusk();
            due("THE DAY", band.about(4), day);
        }
    }

    private static void p11WhatOneWasGivenStays() {
        due("beast(0, 6)", slept(given("R99B0910", 1), 3).beast(0, 6), 9);
    }

    // ---- promise 12: open

    private static void p12NoGates() {
        due("no ROAD", new DumplingBand().open(), LATE);
        due("none", given(SIX, 6).open(), LATE);
    }

    private static void p12AllAreOpen() {
        DumplingBand band = given("R09B0110G001G001G001", 1);
        for (int gate = 0; gate < 3; gate++) {
            due("open", band.open(), gate);
        }
        due("open", band.open(), LATE);
    }

    private static void p12NobodyIsThere() {
        due("open", on("R09B0110G001").open(), LATE);
    }

    private static void p12StrengthAsWanted() {
        due("open", given("R09B0150G005", 1).open(), 0);
    }

    private static void p12OneStrengthTooLittle() {
        due("open", given("R09B0150G006", 1).open(), LATE);
    }

    private static void p12OneStrengthMore() {
        due("open", given("R09B0150G004", 1).open(), 0);
    }

    private static void p12GreatestStrength() {
        due("six of 9", given(SIX + "G054", 6).open(), 0);
        due("five of 9", given(SIX + "G054", 5).open(), LATE);
    }

    private static void p12StrengthOfAllTogether() {
        due("of who has no SKILL, too", given("R09B0110B0141G005", 2).open(), 0);
    }

    private static void p12NobodyHasItsSkill() {
        due("open", given("R09B0191B0192B0193G001", 3).open(), LATE);
    }

    private static void p12WhoIsNotOfTheBandHasNoSkillForIt() {
        DumplingBand band = passed(on("R09B0190B0191G001"), 1);
        band.give();
        due("open", band.open(), LATE);
    }

    private static void p12TheFirstThatIsNot() {
        DumplingBand band = given("R09B0150G009G005", 1);
        due("not the second ahead of it", band.open(), LATE);
        DumplingBand other = given("R09B0150G005G004", 1);
        due("the first", other.open(), 0);
        due("the second", other.open(), 1);
    }

    private static void p12LateChangesNothing() {
        DumplingBand band = given("R09B0150G006", 1);
        due("open", band.open(), LATE);
        rowDue("about", about(band), 1, 8, 1, 5, 0, NONE, 1, 0, 1, 0, 12, 1);
    }

    private static void p12OnlyTheGateIsChanged() {
        DumplingBand band = given("R09B0150G005", 1);
        band.open();
        rowDue("about", about(band), 1, 8, 1, 5, 0, NONE, 1, 1, 2, 0, 12, 1);
    }

    private static void p12ItStaysOpen() {
        DumplingBand band = given("R01B0190G009", 1);
        band.open();
        band.dusk();
        due("THE BAND", band.about(2), 0);
        due("gate(0, 2)", band.gate(0, 2), 1);
    }

    // ---- promise 13: undo

    private static void p13NoActs() {
        due("no ROAD", new DumplingBand().undo(), LATE);
        due("a new ROAD", on(SIX).undo(), LATE);
    }

    private static void p13AllAreUndone() {
        DumplingBand band = given(SIX, 1);
        due("undo", band.undo(), 0);
        due("undo", band.undo(), LATE);
    }

    private static void p13LateChangesNothing() {
        DumplingBand band = on(SIX);
        band.undo();
        rowDue("about", about(band), 6, 99, 0, 0, 0, 0, 0, 0, 0, 0, 33, 0);
    }

    private static void p13RefusedIsNoAct() {
        DumplingBand band = on("R00B0110G001");
        due("give", band.give(), FULL);
        due("open", band.open(), LATE);
        due("ACTS", band.about(8), 0);
        band.pass();
        due("pass", band.pass(), LATE);
        due("give", band.give(), LATE);
        due("ACTS", band.about(8), 1);
    }

    private static void p13EachKindIsAnAct() {
        DumplingBand band = on("R09B0110B0110G001");
        band.give();
        band.pass();
        band.open();
        band.dusk();
        due("ACTS", band.about(8), 4);
        due("a DUSK", band.undo(), 3);
        rowDue("DUMPLINGS, THE DAY", new int[] {band.about(1), band.about(4)}, 8, 0);
        due("a GATE", band.undo(), 2);
        due("open", band.about(7), 0);
        due("PASSED", band.undo(), 1);
        due("next", band.about(5), 1);
        due("GIVEN", band.undo(), 0);
        rowDue("about", about(band), 2, 9, 0, 0, 0, 0, 1, 0, 0, 0, 17, 0);
    }

    private static void p13WhoLeftByAQuarrelIsBack() {
        DumplingBand band = given("R09B0410B0120E01", 2);
        band.undo();
        due("THE BAND", band.about(2), 1);
        due("what it was given", band.beast(0, 6), 4);
    }

    private static void p13WhoLeftAtADuskIsBack() {
        DumplingBand band = slept(given("R09B3410B0510", 2), 1);
        due("nobody", band.about(2), 0);
        band.undo();
        due("THE BAND", band.about(2), 3);
        rowDue("given", new int[] {band.beast(0, 6), band.beast(1, 6)}, 4, 5);
    }

    private static void p13FullRow() {
        DumplingBand band = slept(on(SIX), ROW);
        for (int left = ROW - 1; left >= 0; left--) {
            due("undo", band.undo(), left);
        }
        due("THE DAY", band.about(4), 0);
        due("undo", band.undo(), LATE);
    }

    private static void p13OverAFullRowTheFirstIsForgotten() {
        DumplingBand band = slept(on(SIX), ROW + 1);
        due("ACTS", band.about(8), ROW);
        for (int left = ROW - 1; left >= 0; left--) {
            due("undo", band.undo(), left);
        }
        due("THE DAY", band.about(4), 1);
        due("undo", band.undo(), LATE);
    }

    private static void p13EachKindIsForgotten() {
        DumplingBand band = on("R99B0110B0110G001");
        band.give();
        band.pass();
        band.open();
        band.dusk();
        slept(band, ROW);
        for (int act = 0; act < ROW; act++) {
            band.undo();
        }
        rowDue("about", about(band), 2, 97, 1, 1, 1, NONE, 1, 1, 0, 0, 17, 1);
    }

    private static void p13EachKindMakesTheFirstForgotten() {
        DumplingBand band = slept(on("R99B0110B0110G001"), ROW);
        band.give();
        band.pass();
        band.open();
        for (int left = ROW - 1; left >= 0; left--) {
            due("undo", band.undo(), left);
        }
        rowDue("about", about(band), 2, 99, 0, 0, 3, 0, 1, 0, 0, 0, 17, 0);
    }

    private static void p13UndoMakesRoom() {
        DumplingBand band = slept(on(SIX), ROW);
        band.undo();
        band.dusk();
        due("ACTS", band.about(8), ROW);
        for (int act = 0; act < ROW; act++) {
            band.undo();
        }
        due("THE DAY", band.about(4), 0);
    }

    private static void p13RefusedForgetsNothing() {
        DumplingBand band = slept(given("R01B0110", 1), ROW - 1);
        due("give", band.give(), LATE);
        due("open", band.open(), LATE);
        for (int act = 0; act < ROW; act++) {
            band.undo();
        }
        due("next", band.about(5), 0);
        due("DUMPLINGS", band.about(1), 1);
    }

    private static void p13RowIsFullManyTimes() {
        DumplingBand band = slept(on(SIX), 5 * ROW + 3);
        for (int left = ROW - 1; left >= 0; left--) {
            due("undo", band.undo(), left);
        }
        due("THE DAY", band.about(4), 4 * ROW + 3);
        due("undo", band.undo(), LATE);
    }

    private static void p13WhatIsNoActStays() {
        DumplingBand band = on(FOUR);
        band.give();
        band.tell(1, true);
        band.seed(8);
        band.write('x');
        band.keep(0);
        band.undo();
        due("TOLD", band.about(9), 1);
        due("bytes", band.about(10), 35);
        due("seed", band.seed(0), 8);
        due("again", band.again(0), 1);
    }
}
