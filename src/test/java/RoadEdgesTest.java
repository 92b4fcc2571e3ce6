/** Edges that the document names for the road: promises 1 to 8 and part 1 of its Terms. */
public final class RoadEdgesTest extends Edges {
    private static final String TWO = "R00B0110B0110";
    private static final String THREE = TWO + "B0110";

    public static void main(String[] args) {
        runAll(RoadEdgesTest.class);
    }

    private static void fault(String text, int want) {
        due("fault of '" + text + "'", Checks.faultOf(text), want);
    }

    /** Which bytes can stand behind a start: all 256 are tried. */
    private static void bytesBehind(String start, String good) {
        for (char letter = 0; letter < 256; letter++) {
            boolean isFault = Checks.faultOf(start + letter) == start.length();
            due("byte " + (int) letter + " behind '" + start + "' can be", isFault ? 0 : 1,
                good.indexOf(letter) >= 0 ? 1 : 0);
        }
    }

    // ---- promise 1: a new object

    private static void p1NoBeasts() {
        due("BEASTS", new DumplingBand().about(0), 0);
        due("beast(0, 0)", new DumplingBand().beast(0, 0), UNKNOWN);
    }

    private static void p1ThePouchIsEmpty() {
        due("DUMPLINGS", new DumplingBand().about(1), 0);
    }

    private static void p1TheBandIsEmpty() {
        DumplingBand band = new DumplingBand();
        rowDue("THE BAND, STRENGTH, SKILLS", new int[] {band.about(2), band.about(3), band.about(11)}, 0, 0, 0);
    }

    private static void p1TheDayIs0() {
        due("THE DAY", new DumplingBand().about(4), 0);
    }

    private static void p1NobodyIsNext() {
        due("next", new DumplingBand().about(5), NONE);
    }

    private static void p1NoGates() {
        due("GATES", new DumplingBand().about(6), 0);
        due("open", new DumplingBand().about(7), 0);
        due("gate(0, 0)", new DumplingBand().gate(0, 0), UNKNOWN);
    }

    private static void p1NoActs() {
        due("ACTS", new DumplingBand().about(8), 0);
        due("undo", new DumplingBand().undo(), LATE);
    }

    private static void p1NothingIsTold() {
        due("TOLD", new DumplingBand().about(9), 0);
        due("untell", new DumplingBand().untell(), 0);
    }

    private static void p1TheTextIsEmpty() {
        due("bytes", new DumplingBand().about(10), 0);
        due("wipe", new DumplingBand().wipe(), 0);
    }

    private static void p1TheSeedIs0() {
        due("seed", new DumplingBand().seed(1), 0);
    }

    private static void p1NothingIsKept() {
        due("again(0)", new DumplingBand().again(0), LATE);
        due("again(1)", new DumplingBand().again(1), LATE);
    }

    private static void p1ObjectsShareNothing() {
        DumplingBand one = on(FOUR);
        DumplingBand other = on(SIX);
        one.give();
        one.keep(0);
        one.seed(3);
        one.tell(0, true);
        rowDue("the other", about(other), 6, 99, 0, 0, 0, 0, 0, 0, 0, 0, 33, 0);
        due("the other's slot", other.again(0), LATE);
        due("the other's SEED", other.seed(0), 0);
        due("ENEMIES of the other's", other.beast(0, 4), 0);
    }

    // ---- promise 2: write

    private static void p2LeastByte() {
        due("write(0)", new DumplingBand().write(0), 1);
    }

    private static void p2UnderTheLeastByte() {
        due("write(-1)", new DumplingBand().write(-1), BAD);
        due("write(least)", new DumplingBand().write(LEAST), BAD);
    }

    private static void p2GreatestByte() {
        due("write(255)", new DumplingBand().write(255), 1);
    }

    private static void p2OverTheGreatestByte() {
        due("write(256)", new DumplingBand().write(256), BAD);
        due("write(most)", new DumplingBand().write(MOST), BAD);
    }

    private static void p2EveryByteIsTaken() {
        for (int letter = 0; letter < 256; letter++) {
            due("write(" + letter + ")", new DumplingBand().write(letter), 1);
        }
    }

    private static void p2ByteThatIsBadIsNotCutToOne() {
        DumplingBand band = new DumplingBand();
        due("256 + R", band.write(256 + 'R'), BAD);
        due("bytes", band.about(10), 0);
    }

    private static void p2HowLongItIs() {
        DumplingBand band = new DumplingBand();
        for (int length = 1; length <= 64; length++) {
            due("write", band.write('0'), length);
        }
    }

    private static void p2The64thByte() {
        DumplingBand band = new DumplingBand();
        Checks.write(band, LONGEST.substring(0, 63));
        due("write", band.write('5'), 64);
        due("fault", band.fault(), NONE);
    }

    private static void p2The65thByte() {
        DumplingBand band = new DumplingBand();
        Checks.write(band, LONGEST);
        due("write", band.write('5'), FULL);
        due("bytes", band.about(10), 64);
        due("fault", band.fault(), NONE);
    }

    private static void p2BadIsToldAheadOfFull() {
        DumplingBand band = new DumplingBand();
        Checks.write(band, LONGEST);
        due("write(-1)", band.write(-1), BAD);
        due("write(256)", band.write(256), BAD);
    }

    private static void p2BadByteDoesNotCome() {
        DumplingBand band = new DumplingBand();
        Checks.write(band, "R0");
        band.write(-1);
        band.write(256);
        band.write('7');
        due("bytes", band.about(10), 3);
        due("fault", band.fault(), NONE);
    }

    // ---- promise 3: wipe

    private static void p3EmptyText() {
        DumplingBand band = new DumplingBand();
        band.write('R');
        band.wipe();
        due("wipe", band.wipe(), 0);
    }

    private static void p3OneByte() {
        DumplingBand band = new DumplingBand();
        band.write('R');
        due("wipe", band.wipe(), 1);
    }

    private static void p3FullText() {
        DumplingBand band = on(LONGEST);
        due("wipe", band.wipe(), 64);
        due("bytes", band.about(10), 0);
        due("write", band.write('R'), 1);
    }

    private static void p3OldBytesAreGone() {
        DumplingBand band = on(FOUR);
        band.wipe();
        band.write('R');
        due("fault", band.fault(), 1);
        due("road", band.road(), LATE);
    }

    private static void p3TheRoadStays() {
        DumplingBand band = given(FOUR, 2);
        band.wipe();
        rowDue("about", about(band), 4, 7, 3, 7, 0, 2, 2, 0, 2, 0, 0, 3);
    }

    // ---- promise 4: fault

    private static void p4EmptyText() {
        fault("", 0);
    }

    private static void p4FirstByte() {
        bytesBehind("", "R");
    }

    private static void p4FirstFigureOfThePouch() {
        bytesBehind("R", "0123456789");
    }

    private static void p4SecondFigureOfThePouch() {
        bytesBehind("R0", "0123456789");
        bytesBehind("R9", "0123456789");
    }

    private static void p4LeastAndGreatestPouch() {
        fault("R00", NONE);
        fault("R99", NONE);
        fault("R100", 3);
    }

    private static void p4NoParts() {
        fault("R12", NONE);
    }

    private static void p4PartsWithoutBeasts() {
        bytesBehind("R00", "BG");
    }

    private static void p4PartsWithOneBeast() {
        bytesBehind("R00B0110", "BG");
    }

    private static void p4PartsWithTwoBeasts() {
        bytesBehind(TWO, "BEG");
    }

    private static void p4Kind() {
        bytesBehind("R00B", "0123");
    }

    private static void p4Price() {
        bytesBehind("R00B0", "123456789");
    }

    private static void p4Strength() {
        bytesBehind("R00B01", "123456789");
    }

    private static void p4SkillOfABeast() {
        bytesBehind("R00B011", "0123");
    }

    private static void p4LeastAndGreatestBeast() {
        fault("R00B0110", NONE);
        fault("R00B3993", NONE);
    }

    private static void p4SixBeasts() {
        fault(SIX, NONE);
    }

    private static void p4SeventhBeast() {
        bytesBehind(SIX, "EG");
        fault(SIX + "B0110", 33);
    }

    private static void p4FirstEnemyIsToldAhead() {
        bytesBehind(TWO + "E", "01");
        bytesBehind(THREE + "E", "012");
        bytesBehind(SIX + "E", "012345");
    }

    private static void p4SecondEnemyIsToldAheadAndUnlike() {
        bytesBehind(TWO + "E0", "1");
        bytesBehind(TWO + "E1", "0");
        bytesBehind(THREE + "E1", "02");
        bytesBehind(SIX + "E5", "01234");
    }

    private static void p4EnemyToldBehindIsAFault() {
        fault(TWO + "E02B0110", 15);
        fault(TWO + "E20B0110", 14);
    }

    private static void p4SamePairTwice() {
        bytesBehind(THREE + "E01E0", "2");
    }

    private static void p4SamePairTheOtherWayRound() {
        bytesBehind(THREE + "E01E1", "2");
        bytesBehind(THREE + "E10E0", "2");
    }

    private static void p4EnemyOfAllHasNoMore() {
        bytesBehind(THREE + "E01E02E", "12");
    }

    private static void p4NoPairIsLeft() {
        bytesBehind(TWO + "E01", "BG");
        bytesBehind(THREE + "E01E02E12", "BG");
        String five = THREE + "B0110B0110E01E02E03E04E12E13E14E23E24";
        bytesBehind(five, "BEG");
        bytesBehind(five + "E34", "BG");
    }

    private static void p4NewBeastBringsNewPairs() {
        bytesBehind(TWO + "E01B0110", "BEG");
        bytesBehind(TWO + "E01B0110E", "012");
    }

    private static void p4SkillOfAGate() {
        bytesBehind("R00G", "0123");
    }

    private static void p4TensOfAGate() {
        bytesBehind("R00G0", "012345");
    }

    private static void p4LeastStrengthOfAGate() {
        bytesBehind("R00G00", "123456789");
        fault("R00G001", NONE);
    }

    private static void p4OnesOfAGate() {
        bytesBehind("R00G01", "0123456789");
        bytesBehind("R00G04", "0123456789");
    }

    private static void p4GreatestStrengthOfAGate() {
        bytesBehind("R00G05", "01234");
        fault("R00G354", NONE);
    }

    private static void p4ThreeGates() {
        fault("R00G001G001G001", NONE);
    }

    private static void p4FourthGate() {
        bytesBehind("R00G001G001G001", "B");
        fault("R00G001G001G001G001", 15);
    }

    private static void p4FullText() {
        due("its bytes", LONGEST.length(), 64);
        fault(LONGEST, NONE);
    }

    private static void p4LengthIsSetAside() {
        String cut = LONGEST.substring(0, 61);
        fault(cut + "E", 62);
        fault(cut + "G", 62);
        fault(cut + "G0", 63);
        fault(cut + "G00", 64);
        fault(LONGEST.substring(0, 63), 63);
    }

    private static void p4FaultAtTheLastByte() {
        fault(LONGEST.substring(0, 63) + "2", 63);
        fault(LONGEST.substring(0, 63) + "x", 63);
    }

    private static void p4ItsLengthIfOnlyNotAtItsEnd() {
        for (int length = 0; length <= FOUR.length(); length++) {
            boolean isWhole = length == 3 || length >= 8 && length <= 23 && length % 5 == 3
                || length == 26 || length == 30 || length == 34;
            fault(FOUR.substring(0, length), isWhole ? NONE : length);
        }
    }

    private static void p4FirstOfTwoFaults() {
        fault("R00B4B4", 4);
        fault("x00x", 0);
    }

    private static void p4WhateverCameBehindIt() {
        fault("R00x" + FOUR.substring(3), 3);
        fault("00" + FOUR, 0);
    }

    private static void p4NothingIsChanged() {
        DumplingBand band = given(FOUR, 2);
        Checks.write(band, SIX);
        band.fault();
        rowDue("about", about(band), 4, 7, 3, 7, 0, 2, 2, 0, 2, 0, 33, 3);
        rowDue("beast 0", Checks.beast(band, 0), 0, 2, 3, 0, 4, 2, 2);
    }

    // ---- promise 5: road

    private static void p5EmptyTextIsLate() {
        due("road", new DumplingBand().road(), LATE);
    }

    private static void p5FaultInsideIsLate() {
        due("road", Checks.takeRoad(new DumplingBand(), "R00x"), LATE);
    }

    private static void p5TextNotAtItsEndIsLate() {
        due("road", Checks.takeRoad(new DumplingBand(), "R00B011"), LATE);
        due("road", Checks.takeRoad(new DumplingBand(), "R0"), LATE);
    }

    private static void p5LateChangesNothing() {
        DumplingBand band = given(FOUR, 2);
        band.keep(1);
        due("road", Checks.takeRoad(band, SIX + "x"), LATE);
        rowDue("about", about(band), 4, 7, 3, 7, 0, 2, 2, 0, 2, 0, 34, 3);
        rowDue("beast 0", Checks.beast(band, 0), 0, 2, 3, 0, 4, 2, 2);
        due("gate(1, 1)", band.gate(1, 1), 8);
        due("undo", band.undo(), 1);
        due("again", band.again(1), 2);
    }

    private static void p5NoBeasts() {
        due("road", Checks.takeRoad(new DumplingBand(), "R00"), 0);
        due("road", Checks.takeRoad(new DumplingBand(), "R00G001"), 0);
    }

    private static void p5OneBeast() {
        due("road", Checks.takeRoad(new DumplingBand(), "R00B0110"), 1);
    }

    private static void p5SixBeasts() {
        due("road", Checks.takeRoad(new DumplingBand(), SIX), 6);
    }

    private static void p5FullText() {
        due("road", Checks.takeRoad(new DumplingBand(), LONGEST), 6);
    }

    private static void p5TheTextItselfStays() {
        DumplingBand band = on(SIX);
        due("bytes", band.about(10), 33);
        due("fault", band.fault(), NONE);
        due("road", band.road(), 6);
    }

    private static void p5NoActs() {
        DumplingBand band = given(SIX, 3);
        band.road();
        due("ACTS", band.about(8), 0);
        due("undo", band.undo(), LATE);
    }

    private static void p5WhatWasKeptIsGone() {
        DumplingBand band = given(SIX, 3);
        band.keep(0);
        band.keep(1);
        band.road();
        due("again(0)", band.again(0), LATE);
        due("again(1)", band.again(1), LATE);
    }

    private static void p5ToldStays() {
        DumplingBand band = told(on(SIX), 6);
        take(band, "R00B0110");
        due("TOLD", band.about(9), 6);
        due("eaten(0, 0)", band.eaten(0, 0), 0);
        due("eaten(1, 0)", band.eaten(1, 0), 1);
    }

    private static void p5TheSeedStays() {
        DumplingBand band = new DumplingBand();
        band.seed(-5);
        take(band, SIX);
        due("seed", band.seed(0), -5);
    }

    private static void p5ThePouchIsNew() {
        DumplingBand band = given(SIX, 3);
        take(band, "R00B0110");
        due("DUMPLINGS", band.about(1), 0);
        take(band, "R99");
        due("DUMPLINGS", band.about(1), 99);
    }

    private static void p5TheBandIsEmpty() {
        DumplingBand band = given(SIX, 6);
        band.road();
        due("THE BAND", band.about(2), 0);
        due("what 0 was given", band.beast(0, 6), NONE);
    }

    private static void p5TheDayIs0() {
        DumplingBand band = slept(on(SIX), 3);
        band.road();
        due("THE DAY", band.about(4), 0);
    }

    private static void p5Beast0IsNext() {
        DumplingBand band = passed(on(SIX), 6);
        band.road();
        due("next", band.about(5), 0);
    }

    private static void p5NobodyIsNextOnARoadWithoutBeasts() {
        due("next", on("R12").about(5), NONE);
    }

    private static void p5NoGateIsOpen() {
        DumplingBand band = given(FOUR, 1);
        band.open();
        band.road();
        due("open", band.about(7), 0);
        due("gate(0, 2)", band.gate(0, 2), 0);
    }

    private static void p5OldBeastsGatesEnemiesAreGone() {
        DumplingBand band = on(FOUR);
        take(band, "R00B0110B0110B0110");
        due("beast(3, 0)", band.beast(3, 0), UNKNOWN);
        due("gate(0, 0)", band.gate(0, 0), UNKNOWN);
        due("ENEMIES of 2", band.beast(2, 4), 0);
    }

    private static void p5NumberedAsTheyAreTold() {
        DumplingBand band = on("R00G103B0110G254B3993G301E10B1552");
        rowDue("beast 1", Checks.beast(band, 1), 3, 9, 9, 3, 1, 9, NONE);
        rowDue("beast 2", Checks.beast(band, 2), 1, 5, 5, 2, 0, 3, NONE);
        rowDue("GATES", new int[] {band.gate(0, 0), band.gate(1, 0), band.gate(2, 0)}, 1, 2, 3);
        rowDue("what they want", new int[] {band.gate(0, 1), band.gate(1, 1), band.gate(2, 1)}, 3, 54, 1);
    }

    // ---- promise 6: about

    private static void p6Under0() {
        due("about(-1)", on(FOUR).about(-1), BAD);
        due("about(least)", on(FOUR).about(LEAST), BAD);
    }

    private static void p6Over11() {
        due("about(12)", on(FOUR).about(12), BAD);
        due("about(most)", on(FOUR).about(MOST), BAD);
    }

    private static void p6LeastAndMostBeasts() {
        due("none", on("R12").about(0), 0);
        due("six", on(SIX).about(0), 6);
    }

    private static void p6LeastAndMostDumplings() {
        due("00", on("R00").about(1), 0);
        due("99", on("R99").about(1), 99);
        due("the last is given", given("R09B0910", 1).about(1), 0);
    }

    private static void p6EmptyAndFullBand() {
        due("nobody", on(SIX).about(2), 0);
        due("six", given(SIX, 6).about(2), 63);
        due("the last alone", Checks.giveAll(passed(on(SIX), 5), 1).about(2), 32);
    }

    private static void p6LeastAndMostStrength() {
        due("nobody", on(SIX).about(3), 0);
        due("one of 1", given("R09B0110", 1).about(3), 1);
        due("six of 9", given(SIX, 6).about(3), 54);
    }

    private static void p6LeastAndMostDays() {
        due("at first", on(SIX).about(4), 0);
        due("many", slept(on(SIX), 400).about(4), 400);
    }

    private static void p6FirstAndLastThatIsNext() {
        due("first", on(SIX).about(5), 0);
        due("last", passed(on(SIX), 5).about(5), 5);
    }

    private static void p6NobodyIsNext() {
        due("all passed", passed(on(SIX), 6).about(5), NONE);
        due("all came", given(SIX, 6).about(5), NONE);
    }

    private static void p6LeastAndMostGates() {
        due("none", on(SIX).about(6), 0);
        due("three", on("R00G001G001G001").about(6), 3);
    }

    private static void p6LeastAndMostOpen() {
        DumplingBand band = given("R09B0110G001G001G001", 1);
        for (int open = 0; open < 3; open++) {
            due("open", band.about(7), open);
            band.open();
        }
        due("all", band.about(7), 3);
    }

    private static void p6LeastAndMostActs() {
        due("none", on(SIX).about(8), 0);
        due("one", slept(on(SIX), 1).about(8), 1);
        due("fourteen", slept(on(SIX), 14).about(8), 14);
        due("one more", slept(on(SIX), 15).about(8), 14);
    }

    private static void p6LeastAndMostTold() {
        due("none", on(SIX).about(9), 0);
        due("six", told(on(SIX), 6).about(9), 6);
        due("one more", told(on(SIX), 7).about(9), 6);
    }

    private static void p6EmptyAndFullText() {
        due("empty", new DumplingBand().about(10), 0);
        due("full", on(LONGEST).about(10), 64);
    }

    private static void p6NoSkillsAndAll() {
        due("nobody", on(FOUR).about(11), 0);
        due("SKILL 0", given("R09B0110", 1).about(11), 1);
        due("SKILL 3", given("R09B0113", 1).about(11), 8);
        due("all", given("R09B0110B0111B0112B0113", 4).about(11), 15);
        due("like ones once", given("R09B0112B0112", 2).about(11), 4);
    }

    private static void p6NothingIsChanged() {
        DumplingBand band = slept(told(given(FOUR, 2), 2), 1);
        int[] row = about(band);
        rowDue("once more", about(band), row);
    }

    // ---- promise 7: beast

    private static void p7FirstAndLastBeast() {
        due("beast(0, 1)", on(SIX).beast(0, 1), 1);
        due("beast(5, 1)", on(SIX).beast(5, 1), 6);
    }

    private static void p7UnderTheFirst() {
        due("beast(-1, 0)", on(SIX).beast(-1, 0), UNKNOWN);
        due("beast(least, 0)", on(SIX).beast(LEAST, 0), UNKNOWN);
    }

    private static void p7OverTheLast() {
        due("beast(6, 0)", on(SIX).beast(6, 0), UNKNOWN);
        due("beast(4, 0) of four", on(FOUR).beast(4, 0), UNKNOWN);
        due("beast(most, 0)", on(SIX).beast(MOST, 0), UNKNOWN);
    }

    private static void p7What0And6() {
        due("beast(3, 0)", on(FOUR).beast(3, 0), 3);
        due("beast(3, 6)", on(FOUR).beast(3, 6), NONE);
    }

    private static void p7WhatUnder0() {
        due("beast(0, -1)", on(FOUR).beast(0, -1), BAD);
        due("beast(0, least)", on(FOUR).beast(0, LEAST), BAD);
    }

    private static void p7WhatOver6() {
        due("beast(0, 7)", on(FOUR).beast(0, 7), BAD);
        due("beast(0, most)", on(FOUR).beast(0, MOST), BAD);
    }

    private static void p7UnknownIsToldAheadOfBad() {
        due("beast(4, 7)", on(FOUR).beast(4, 7), UNKNOWN);
        due("beast(-1, -1)", on(FOUR).beast(-1, -1), UNKNOWN);
    }

    private static void p7LeastAndGreatestOfEach() {
        DumplingBand band = on("R00B0110B3993");
        rowDue("the least", Checks.beast(band, 0), 0, 1, 1, 0, 0, 1, NONE);
        rowDue("the greatest", Checks.beast(band, 1), 3, 9, 9, 3, 0, 9, NONE);
    }

    private static void p7NoEnemiesAndMost() {
        DumplingBand band = on(SIX + "E05E15E25E35E54");
        due("of all", band.beast(5, 4), 31);
        due("of the last", band.beast(0, 4), 32);
        due("none", on(SIX).beast(0, 4), 0);
    }

    private static void p7HalfOfAPriceUp() {
        int[] want = {1, 1, 2, 2, 3, 3, 4, 4, 5};
        for (int price = 1; price <= 9; price++) {
            due("half of " + price, on("R00B1" + price + "10").beast(0, 5), want[price - 1]);
        }
    }

    private static void p7PlainAndTraitorAskTheirPrice() {
        DumplingBand band = given("R99B0910B0110B3110B0910", 1);
        due("PLAIN", band.beast(1, 5), 1);
        due("TRAITOR", band.beast(2, 5), 1);
        due("PLAIN", band.beast(3, 5), 9);
    }

    private static void p7EnviousOfNobody() {
        due("an empty BAND", on("R09B2310").beast(0, 5), 3);
    }

    private static void p7EnviousOfLessLikeMore() {
        due("less", given("R99B0210B2310", 1).beast(1, 5), 3);
        due("like", given("R99B0310B2310", 1).beast(1, 5), 3);
        due("more", given("R99B0410B2310", 1).beast(1, 5), 4);
    }

    private static void p7EnviousOfTheMost() {
        due("the first", given("R99B0910B0410B2310", 2).beast(2, 5), 9);
        due("the last", given("R99B0410B0910B2310", 2).beast(2, 5), 9);
    }

    private static void p7EnviousOfWhatWasGivenNotOfPrice() {
        due("HALVED", given("R99B1910B2110", 1).beast(1, 5), 5);
        due("ENVIOUS", given("R99B0910B2110B2210", 2).beast(2, 5), 9);
    }

    private static void p7EnviousOfNobodyWhoLeft() {
        due("by a quarrel", given("R99B0910B0120B2110E01", 2).beast(2, 5), 1);
        due("at a DUSK", slept(given("R99B3910B2110", 1), 1).beast(1, 5), 1);
        due("passed", passed(on("R99B0910B2110"), 1).beast(1, 5), 1);
    }

    private static void p7EnviousOfOneWhoComesBehind() {
        due("0 asks as 1 was given", Checks.giveAll(passed(on("R99B2110B0710"), 1), 1).beast(0, 5), 7);
    }

    private static void p7GivenOnlyIfOfTheBand() {
        DumplingBand band = on("R99B0910B0120E01");
        due("to come", band.beast(0, 6), NONE);
        band.give();
        due("came", band.beast(0, 6), 9);
        band.give();
        due("left", band.beast(0, 6), NONE);
        due("came", band.beast(1, 6), 1);
        due("passed", passed(on(SIX), 1).beast(0, 6), NONE);
    }

    private static void p7GivenLeastAndMost() {
        due("1", given("R99B0110", 1).beast(0, 6), 1);
        due("1 of HALVED", given("R99B1110", 1).beast(0, 6), 1);
        due("9", given("R99B0910", 1).beast(0, 6), 9);
    }

    // ---- promise 8: gate

    private static void p8FirstAndLastGate() {
        DumplingBand band = on("R00G001G102G203");
        due("gate(0, 1)", band.gate(0, 1), 1);
        due("gate(2, 1)", band.gate(2, 1), 3);
    }

    private static void p8UnderTheFirst() {
        due("gate(-1, 0)", on(FOUR).gate(-1, 0), UNKNOWN);
        due("gate(least, 0)", on(FOUR).gate(LEAST, 0), UNKNOWN);
    }

    private static void p8OverTheLast() {
        due("gate(2, 0) of two", on(FOUR).gate(2, 0), UNKNOWN);
        due("gate(3, 0) of three", on("R00G001G102G203").gate(3, 0), UNKNOWN);
        due("gate(most, 0)", on(FOUR).gate(MOST, 0), UNKNOWN);
    }

    private static void p8What0And2() {
        due("gate(1, 0)", on(FOUR).gate(1, 0), 1);
        due("gate(1, 2)", on(FOUR).gate(1, 2), 0);
    }

    private static void p8WhatUnder0() {
        due("gate(0, -1)", on(FOUR).gate(0, -1), BAD);
        due("gate(0, least)", on(FOUR).gate(0, LEAST), BAD);
    }

    private static void p8WhatOver2() {
        due("gate(0, 3)", on(FOUR).gate(0, 3), BAD);
        due("gate(0, most)", on(FOUR).gate(0, MOST), BAD);
    }

    private static void p8UnknownIsToldAheadOfBad() {
        due("gate(2, 3)", on(FOUR).gate(2, 3), UNKNOWN);
        due("gate(-1, -1)", on(FOUR).gate(-1, -1), UNKNOWN);
    }

    private static void p8LeastAndGreatestOfEach() {
        DumplingBand band = on("R00G001G354");
        rowDue("the least", new int[] {band.gate(0, 0), band.gate(0, 1)}, 0, 1);
        rowDue("the greatest", new int[] {band.gate(1, 0), band.gate(1, 1)}, 3, 54);
    }

    private static void p8OpenOneByOne() {
        DumplingBand band = given("R09B0110G001G001G001", 1);
        for (int open = 0; open <= 3; open++) {
            rowDue(open + " are open", new int[] {band.gate(0, 2), band.gate(1, 2), band.gate(2, 2)},
                open > 0 ? 1 : 0, open > 1 ? 1 : 0, open > 2 ? 1 : 0);
            band.open();
        }
    }
}
