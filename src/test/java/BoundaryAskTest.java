/** Promises 14 to 17 and 20 to 32, with what "Terms" says of them: a test for each sentence that names a boundary. */
public final class BoundaryAskTest {
    private static final Check CHECK = new Check();
    private static final int MIN = Integer.MIN_VALUE;
    private static final int MAX = Integer.MAX_VALUE;
    private static final int[] NO_WHATS = {-1, MIN, MAX};
    /** Each hears its neighbours alone. */
    private static final String CHAIN = "house a 0 0;house b 3 0;house c 6 0;house d 9 0;house e 12 0;house f 15 0;";

    public static void main(String[] args) {
        aheadByHours();
        aheadOfPairs();
        aheadOfAHouse();
        aheadIsRefused();
        firstByHours();
        firstNotByThen();
        firstByNumbers();
        secretInNoSteps();
        secretAtTheEnds();
        secretFirstOfSeveral();
        secretByNone();
        spreadDials();
        spreadOfFour();
        spreadFirstOfSeveral();
        spreadByNone();
        passedInSteps();
        beforeByHours();
        beforeWithinTheDay();
        beforeOfSeveral();
        beforeIsRefused();
        warn();
        warnTheLeast();
        busiestNoFarther();
        busiestOfSeveral();
        busiestIsRefused();
        gameOfFourHours();
        restsNotSoMany();
        alone();
        codeOfTwentySounds();
        codeOfOneAlone();
        hideAtTheNearest();
        hideNowhere();
        gossipInSteps();
        loudest();
        nextHeardByHours();
        lureFewestThenNearest();
        lureAtTheEnds();
        CHECK.end();
    }

    private static void aheadByHours() {
        CHECK.part("14: AHEAD (n 0 .. 99)");
        StaticDial x = Check.told("house a 1 0;house b 1 0;sound a 0 1;sound a 98 1;sound a 99 1;turn b 99 2;"
            + "often 1;law drift 0;");
        CHECK.due("ahead(0, 1, 0)", x.ahead(0, 1, 0), 0);
        CHECK.due("ahead(1, 1, 0)", x.ahead(1, 1, 0), 1);
        CHECK.due("ahead(98, 1, 0)", x.ahead(98, 1, 0), 1);
        CHECK.due("ahead(99, 1, 0)", x.ahead(99, 1, 0), 2);
        CHECK.due("ahead(99, 2, 1)", x.ahead(99, 2, 1), 1);
        x.go(1);
        CHECK.due("how many times more", x.ahead(99, 1, 0), 2);
        CHECK.due("ahead(99, 2, 1)", x.ahead(99, 2, 1), 2);
        x.go(99);
        CHECK.due("ahead(99, 1, 0)", x.ahead(99, 1, 0), 0);
        CHECK.due("without houses", new StaticDial().ahead(99, 1, 0), 0);
        // behind the last hour that go() lets it be
        x = Check.told("house a 1 9;house b 1 0;fade 0;law drift hour >= 9000;");
        for (int i = 0; i < 90; i++) {
            x.go(99);
        }
        x.go(90);
        CHECK.due("count(4)", x.count(4), 9000);
        CHECK.due("ahead(99, 2, 0)", x.ahead(99, 2, 0), 99);
        CHECK.due("ahead(5, 2, 0)", x.ahead(5, 2, 0), 6);
    }

    private static void aheadOfPairs() {
        CHECK.part("14: how many more pairs KNOW (each of both ways one)");
        StaticDial x = Check.told("house a 1 0;house b 1 0;house c 1 0;often 1;sound a 0 1;sound b 1 1;sound c 2 1;");
        int[] more = {0, 2, 4, 6, 6};
        for (int n = 0; n < more.length; n++) {
            CHECK.due("ahead(" + n + ", 0, 0)", x.ahead(n, 0, 0), more[n]);
        }
        x.make(0, 1);
        CHECK.due("two know already", x.ahead(3, 0, 0), 4);
        CHECK.due("without houses", new StaticDial().ahead(99, 0, 0), 0);
    }

    private static void aheadOfAHouse() {
        CHECK.part("14: 2 DIAL, 3 GAIN of a HOUSE (else that isn't looked at)");
        StaticDial x = Check.told("house a 1 9;house b 90 2;fade 50;law drift 9;");
        CHECK.due("ahead(0, 2, 1)", x.ahead(0, 2, 1), 90);
        CHECK.due("ahead(1, 2, 1)", x.ahead(1, 2, 1), 99);
        CHECK.due("ahead(2, 2, 1)", x.ahead(2, 2, 1), 99);
        CHECK.due("ahead(2, 3, 1)", x.ahead(2, 3, 1), 0);
        CHECK.due("ahead(3, 3, 1)", x.ahead(3, 3, 1), 0);
        for (int house : new int[] {-1, 2, MIN, MAX}) {
            CHECK.due("no dial of " + house, x.ahead(1, 2, house), -1);
            CHECK.due("no gain of " + house, x.ahead(1, 3, house), -1);
            CHECK.due("pairs", x.ahead(1, 0, house), 0);
            CHECK.due("heard", x.ahead(1, 1, house), 0);
        }
        CHECK.due("without houses", new StaticDial().ahead(0, 2, 0), -1);
        CHECK.due("without houses", new StaticDial().ahead(0, 3, 0), -1);
    }

    private static void aheadIsRefused() {
        CHECK.part("14: NONE: no such ones");
        StaticDial x = Check.told("house a 1 9;");
        for (int n : new int[] {-1, 100, MIN, MAX}) {
            for (int what = 0; what <= 3; what++) {
                CHECK.due("ahead(" + n + ", " + what + ", 0)", x.ahead(n, what, 0), -1);
            }
        }
        for (int what : new int[] {-1, 4, MIN, MAX}) {
            CHECK.due("ahead(1, " + what + ", 0)", x.ahead(1, what, 0), -1);
        }
    }

    private static void firstByHours() {
        CHECK.part("15: in how many HOURS as it goes, 99 at most (0: two do)");
        String two = "house a 1 0;house b 1 0;often 1;sound a 0 1;sound b ";
        CHECK.due("1", Check.told(two + "0 1;").first(0), 1);
        CHECK.due("99", Check.told(two + "98 1;").first(0), 99);
        CHECK.due("100", Check.told(two + "99 1;").first(0), -2);
        StaticDial x = Check.told(two + "99 1;");
        x.go(1);
        CHECK.due("99 from 1 on", x.first(0), 99);
        CHECK.due("99 from 1 on", x.first(1), 1);
        x.go(98);
        CHECK.due("1 from 99 on", x.first(0), 1);
        x.go(1);
        CHECK.due("two do", x.first(0), 0);
        CHECK.due("two do", x.first(1), 1);
        x.turn(1, 50);
        CHECK.due("though they don't hear each other", x.first(0), 0);
    }

    private static void firstNotByThen() {
        CHECK.part("15: -2: not by then; NONE for another what");
        StaticDial x = Check.told("house a 1 0;house b 1 0;often 1;sound a 0 1;sound a 1 1;");
        CHECK.due("one way is not enough", x.first(0), -2);
        CHECK.due("one way is not enough", x.first(1), -2);
        x = Check.told("house a 1 0;");
        CHECK.due("of one house", x.first(0), -2);
        CHECK.due("without houses", new StaticDial().first(1), -2);
        for (int what : new int[] {-1, 2, MIN, MAX}) {
            CHECK.due("first(" + what + ")", x.first(what), -1);
            CHECK.due("first(" + what + ")", new StaticDial().first(what), -1);
        }
    }

    private static void firstByNumbers() {
        CHECK.part("15: which two, by numbers: ten times the lesser number and the other one");
        String six = "house a 1 0;house b 90 0;house c 90 0;house d 30 0;house e 60 0;house f 1 0;often 1;";
        StaticDial x = Check.told(six + "sound b 1 1;sound c 1 1;sound a 1 1;sound f 1 1;");
        CHECK.due("a and f ahead of b and c", x.first(1), 5);
        CHECK.due("first(0)", x.first(0), 2);
        x = Check.told(six + "sound b 0 1;sound c 0 1;sound a 1 1;sound f 1 1;");
        CHECK.due("those of an earlier hour", x.first(1), 12);
        x = Check.told("house a 1 0;house b 90 0;house c 50 0;house d 30 0;house e 60 0;house f 60 0;often 1;"
            + "sound f 0 1;sound e 0 1;");
        CHECK.due("the last two", x.first(1), 45);
    }

    private static void dueSecret(StaticDial x, int one, int other, int... want) {
        for (int what = 0; what <= 2; what++) {
            CHECK.due("secret(" + one + ", " + other + ", " + what + ")", x.secret(one, other, what),
                want.length == 1 ? want[0] : want[what]);
        }
    }

    private static void secretInNoSteps() {
        CHECK.part("16: the fewest steps in sum from where they are");
        StaticDial x = Check.told("house a 50 0;house b 53 0;");
        dueSecret(x, 0, 1, 50, 53, 0);
        dueSecret(x, 1, 0, 53, 50, 0);
        x.turn(1, 54);
        dueSecret(x, 0, 1, 50, 53, 1);
        // where they are now, not where they were told
        x.turn(1, 60);
        dueSecret(x, 0, 1, 50, 53, 7);
        // both must hear: the gain of one is not enough
        x = Check.told("house a 50 9;house b 62 0;");
        dueSecret(x, 0, 1, 50, 53, 9);
    }

    private static void secretAtTheEnds() {
        CHECK.part("16: DIALS 0 .. 99");
        dueSecret(Check.told("house a 0 0;house b 99 0;"), 0, 1, 0, 3, 96);
        dueSecret(Check.told("house a 99 0;house b 0 0;"), 0, 1, 3, 0, 96);
        // both from end to end
        dueSecret(Check.told("house a 0 0;house b 0 0;house c 0 0;law reach 98;"), 0, 1, 99, 99, 198);
        dueSecret(Check.told("house a 99 0;house b 99 0;house c 99 0;law reach 98;"), 0, 1, 0, 0, 198);
        dueSecret(Check.told("house a 10 0;house b 20 0;house c 49 0;law reach 48;"), 0, 1, 0, 0, 30);
        dueSecret(Check.told("house a 80 0;house b 90 0;house c 50 0;law reach 48;"), 0, 1, 99, 99, 28);
        dueSecret(Check.told("house a 80 0;house b 90 0;house c 49 0;house d 50 0;law reach 48;"), 0, 1, 99, 99, 28);
        dueSecret(Check.told("house a 80 0;house b 90 0;house c 50 0;law reach 49;"), 0, 1, 0, 0, 170);
        dueSecret(Check.told("house a 10 0;house b 20 0;house c 49 0;law reach 49;"), 0, 1, 99, 99, 168);
        // 0 alone is far enough from 50, 99 alone from 49
        dueSecret(Check.told("house a 80 0;house b 90 0;house c 49 0;house d 50 0;law reach 49;"), 0, 1, -2);
    }

    private static void secretFirstOfSeveral() {
        CHECK.part("16: of several the first by the first one's, then the second one's");
        // 49 and 49, or 51 and 51
        StaticDial x = Check.told("house a 50 0;house b 50 0;house c 50 0;near 0;");
        dueSecret(x, 0, 1, 49, 49, 2);
        dueSecret(x, 1, 0, 49, 49, 2);
        // 50 and 53, or 51 and 54
        dueSecret(Check.told("house a 50 0;house b 54 0;"), 0, 1, 50, 53, 1);
        dueSecret(Check.told("house a 54 0;house b 50 0;"), 0, 1, 53, 50, 1);
        // b hears c from 60 alone, so that it goes to 59 or 61
        x = Check.told("house a 60 0;house b 60 7;house c 67 0;law reach (far = gain or far < 5) * 99;");
        dueSecret(x, 0, 1, 60, 59, 1);
        dueSecret(x, 1, 0, 59, 60, 1);
    }

    private static void secretByNone() {
        CHECK.part("16: -2: by none; NONE: no such ones, alike");
        StaticDial x = Check.told("house a 50 0;house b 50 0;house c 50 0;law reach 99;");
        dueSecret(x, 0, 1, -2);
        dueSecret(x, 2, 1, -2);
        for (int[] two : new int[][] {{0, 0}, {-1, 0}, {0, -1}, {3, 0}, {0, 3}, {MIN, 0}, {0, MAX}}) {
            dueSecret(x, two[0], two[1], -1);
        }
        for (int what : new int[] {-1, 3, MIN, MAX}) {
            CHECK.due("secret(0, 1, " + what + ")", x.secret(0, 1, what), -1);
        }
        dueSecret(new StaticDial(), 0, 1, -1);
        // it is enough that another one hears one of both: c from where it is hears all but 0
        dueSecret(Check.told("house a 50 0;house b 50 0;house c 99 0;law reach (dial = 99) * 98;"), 0, 1, 0, 0, 100);
    }

    private static void dueSpread(String text, int... want) {
        StaticDial x = Check.told(text);
        for (int what = 0; what <= 4; what++) {
            CHECK.due("spread(" + what + ") of " + text, x.spread(what), want[what]);
        }
        CHECK.due("spread(5)", x.spread(5), -1);
        for (int what : NO_WHATS) {
            CHECK.due("spread(" + what + ")", x.spread(what), -1);
        }
    }

    private static void spreadDials() {
        CHECK.part("17: DIALS 0, 11, 22, .. 99");
        dueSpread("house a 0 0;house b 99 0;", 0, 99, -2, -2, 0);
        dueSpread("house a 5 0;house b 94 0;", 0, 99, -2, -2, 10);
        dueSpread("house a 6 0;house b 93 0;", 11, 88, -2, -2, 10);
        dueSpread("house a 98 0;", 99, -2, -2, -2, 1);
        dueSpread("house a 99 0;house b 98 0;house c 97 0;house d 96 0;", 99, 66, 77, 88, 60);
        dueSpread("near 1;", -2, -2, -2, -2, 0);
    }

    private static void spreadOfFour() {
        CHECK.part("17: SPREAD of the first four HOUSES");
        dueSpread("house a 0 0;house b 11 0;house c 22 0;house d 33 0;house e 33 9;house f 0 9;", 0, 11, 22, 33, 0);
        dueSpread("house a 0 0;house b 11 0;house c 22 0;", 0, 11, 22, -2, 0);
        // 10 apart is heard by none at 11, 11 is: one of them goes on
        dueSpread("house a 0 7;house b 11 0;", 0, 11, -2, -2, 0);
        dueSpread("house a 0 8;house b 11 0;", 0, 22, -2, -2, 11);
        dueSpread("house a 0 0;house b 11 8;", 0, 22, -2, -2, 11);
    }

    private static void spreadFirstOfSeveral() {
        CHECK.part("17: by the fewest steps in sum, of several the first by HOUSES");
        dueSpread("house a 50 0;house b 50 0;", 44, 55, -2, -2, 11);
        dueSpread("house a 55 0;house b 55 0;", 44, 55, -2, -2, 11);
        dueSpread("house a 55 0;house b 55 0;house c 55 0;", 44, 55, 66, -2, 22);
        // 44 is 6 away, 55 is 5 away
        dueSpread("house a 50 0;", 55, -2, -2, -2, 5);
        // all three in sum, though the first one would be nearer at 11
        dueSpread("house a 10 0;house b 10 0;house c 10 0;", 0, 11, 22, -2, 10 + 1 + 12);
    }

    private static void spreadByNone() {
        CHECK.part("17: -2: by none; NONE for another what");
        dueSpread("house a 99 0;house b 66 0;house c 33 0;house d 0 0;law reach 32;", 99, 66, 33, 0, 0);
        dueSpread("house a 99 0;house b 66 0;house c 33 0;house d 0 0;law reach 33;", -2, -2, -2, -2, -2);
        dueSpread("house a 99 0;house b 44 0;house c 0 0;law reach 33;", 99, 44, 0, -2, 0);
        dueSpread("house a 99 0;house b 0 0;law reach 98;", 99, 0, -2, -2, 0);
        dueSpread("house a 99 0;house b 0 0;law reach 99;", -2, -2, -2, -2, -2);
        dueSpread("house a 99 0;law reach 99;", 99, -2, -2, -2, 0);
        CHECK.due("without houses", new StaticDial().spread(4), 0);
        CHECK.due("without houses", new StaticDial().spread(0), -2);
        CHECK.due("without houses", new StaticDial().spread(5), -1);
    }

    private static void passedInSteps() {
        CHECK.part("20: PASSED ON (n 0 .. 6; bits); NONE: no such ones");
        StaticDial x = Check.told(CHAIN);
        int[] from = {1, 3, 7, 15, 31, 63, 63};
        int[] middle = {4, 14, 31, 63, 63, 63, 63};
        for (int n = 0; n <= 6; n++) {
            CHECK.due("passed(0, " + n + ")", x.passed(0, n), from[n]);
            CHECK.due("passed(2, " + n + ")", x.passed(2, n), middle[n]);
        }
        for (int n : new int[] {-1, 7, MIN, MAX}) {
            CHECK.due("passed(0, " + n + ")", x.passed(0, n), -1);
        }
        for (int house : new int[] {-1, 6, MIN, MAX}) {
            CHECK.due("passed(" + house + ", 0)", x.passed(house, 0), -1);
        }
        CHECK.due("without houses", new StaticDial().passed(0, 0), -1);
        // those that hear it, not those that it hears
        x = Check.told("house a 0 9;house b 9 0;");
        CHECK.due("passed(0, 6)", x.passed(0, 6), 1);
        CHECK.due("passed(1, 6)", x.passed(1, 6), 3);
        CHECK.due("alone", Check.told("house a 0 9;").passed(0, 6), 1);
    }

    private static void dueBefore(String sounds, int later, int same) {
        StaticDial x = Check.told("house a 1 1;house b 1 1;" + sounds);
        CHECK.due(sounds + " later", x.before(0, 1, 0), later);
        CHECK.due(sounds + " the same", x.before(0, 1, 1), same);
    }

    private static void beforeByHours() {
        CHECK.part("21: by how many HOURS -9 .. 9 later");
        for (int later = -11; later <= 11; later++) {
            boolean isWithin = later >= -9 && later <= 9;
            dueBefore("sound a 50 1;sound b " + (50 + later) + " 1;", isWithin ? later : 0, isWithin ? 1 : 0);
        }
    }

    private static void beforeWithinTheDay() {
        CHECK.part("21: both 0 .. 99, as told; no SOUND isn't the same");
        dueBefore("", 0, 0);
        dueBefore("sound a 0 1;", 0, 0);
        dueBefore("sound b 0 1;", 0, 0);
        dueBefore("sound a 0 1;sound b 9 1;", 9, 1);
        dueBefore("sound a 99 1;sound b 90 1;", -9, 1);
        dueBefore("sound a 0 1;sound b 99 1;", 0, 0);
        dueBefore("sound a 99 1;sound b 0 1;", 0, 0);
        dueBefore("sound a 0 9;sound b 0 9;", 0, 1);
        dueBefore("sound a 99 9;sound b 99 9;", 0, 1);
        dueBefore("sound a 0 9;sound b 0 8;", 0, 0);
        StaticDial x = Check.told("house a 1 1;house b 1 1;sound a 0 1;");
        x.go(2);
        x.make(1, 1);
        CHECK.due("a sound by call isn't told", x.before(0, 1, 1), 0);
    }

    private static void beforeOfSeveral() {
        CHECK.part("21: at most HOURS, of several the one next to 0, of two the lesser one");
        dueBefore("sound a 50 1;sound b 45 1;sound b 54 1;", 4, 1);
        dueBefore("sound a 50 1;sound b 46 1;sound b 55 1;", -4, 1);
        dueBefore("sound a 50 1;sound b 41 1;sound b 59 1;", -9, 1);
        dueBefore("sound a 50 1;sound b 49 1;sound b 51 1;", -1, 1);
        dueBefore("sound a 50 1;sound b 49 1;sound b 50 1;sound b 51 1;", 0, 1);
        dueBefore("sound a 50 1;sound a 60 1;sound b 50 1;sound b 59 1;sound b 69 1;", 9, 2);
        dueBefore("sound a 50 1;sound a 60 2;sound b 50 1;sound b 59 1;sound b 69 1;", 0, 1);
    }

    private static void beforeIsRefused() {
        CHECK.part("21: Integer.MIN_VALUE: no such ones, alike");
        StaticDial x = Check.told("house a 1 1;house b 1 1;sound a 1 1;sound b 0 1;");
        CHECK.due("before(0, 1, 0)", x.before(0, 1, 0), -1);
        for (int what : new int[] {0, 1}) {
            for (int[] two : new int[][] {{0, 0}, {1, 1}, {-1, 0}, {0, -1}, {2, 0}, {0, 2}, {MIN, 0}, {0, MAX}}) {
                CHECK.due("before of " + two[0] + ", " + two[1], x.before(two[0], two[1], what), MIN);
            }
            CHECK.due("without houses", new StaticDial().before(0, 1, what), MIN);
        }
        for (int what : new int[] {-1, 2, MIN, MAX}) {
            CHECK.due("before(0, 1, " + what + ")", x.before(0, 1, what), MIN);
        }
    }

    private static void warn() {
        CHECK.part("22: WARN (bits; 0 without HOUSES)");
        CHECK.due("without houses", new StaticDial().warn(), 0);
        CHECK.due("without houses", Check.told("near 1;").warn(), 0);
        CHECK.due("one", Check.told("house a 1 1;").warn(), 1);
        CHECK.due("each alone", Check.told("house a 0 0;house b 4 0;house c 8 0;house d 12 0;house e 16 0;house f 20 0;")
            .warn(), 63);
        CHECK.due("all together", Check.told("house a 1 0;house b 1 0;house c 1 0;house d 1 0;house e 1 0;house f 1 0;")
            .warn(), 1);
        CHECK.due("one in the middle", Check.told("house a 0 9;house b 12 0;house c 14 0;house d 12 0;house e 24 9;"
            + "house f 12 0;").warn(), 2);
    }

    private static void warnTheLeast() {
        CHECK.part("22: the fewest HOUSES (bits, of several the least) such that each other one HEARS one of them");
        // b and e hear all of them together; so do others, but 18 is the least of two
        CHECK.due("a row", Check.told(CHAIN).warn(), 18);
        // 1 and 4 of three would be 5 or 6, of which 5 is the least
        CHECK.due("two and one", Check.told("house a 1 0;house b 1 0;house c 50 0;").warn(), 5);
        // fewest first: 4 alone, though 3 would be less
        CHECK.due("the third", Check.told("house a 0 9;house b 20 9;house c 10 0;").warn(), 4);
        // it must be heard: a hears all and is heard by none
        CHECK.due("not who hears", Check.told("house a 10 9;house b 0 0;house c 20 0;").warn(), 6);
    }

    private static void dueBusiest(String text, int gain, int dial, int houses) {
        StaticDial x = Check.told(text);
        CHECK.due("busiest(" + gain + ", 0) of " + text, x.busiest(gain, 0), dial);
        CHECK.due("busiest(" + gain + ", 1) of " + text, x.busiest(gain, 1), houses);
    }

    private static void busiestNoFarther() {
        CHECK.part("23: the DIAL 0 .. 99 that has most HOUSES no farther away than near and that GAIN (0 .. 9)");
        dueBusiest("house a 0 0;house b 58 0;near 20;", 9, 29, 2);
        dueBusiest("house a 0 0;house b 59 0;near 20;", 9, 0, 1);
        dueBusiest("house a 0 9;house b 6 9;", 0, 3, 2);
        dueBusiest("house a 0 9;house b 7 9;", 0, 0, 1);
        dueBusiest("house a 99 0;house b 99 0;near 0;", 0, 99, 2);
        dueBusiest("house a 0 0;house b 0 0;near 0;", 0, 0, 2);
        dueBusiest("near 20;", 9, 0, 0);
        CHECK.due("without houses", new StaticDial().busiest(9, 1), 0);
        // a law of reach is no matter here
        dueBusiest("house a 50 0;house b 60 0;near 1;law reach 99;", 0, 49, 1);
    }

    private static void busiestOfSeveral() {
        CHECK.part("23: the first of several");
        dueBusiest("house a 90 0;house b 10 0;near 0;", 0, 10, 1);
        dueBusiest("house a 90 0;house b 10 0;near 0;", 2, 8, 1);
        dueBusiest("house a 90 0;house b 10 0;house c 90 0;near 0;", 9, 81, 2);
    }

    private static void busiestIsRefused() {
        CHECK.part("23: NONE: no such ones");
        StaticDial x = Check.told("house a 50 0;");
        for (int wrong : new int[] {-1, 10, MIN, MAX}) {
            CHECK.due("busiest(" + wrong + ", 0)", x.busiest(wrong, 0), -1);
            CHECK.due("busiest(" + wrong + ", 1)", x.busiest(wrong, 1), -1);
        }
        for (int what : new int[] {-1, 2, MIN, MAX}) {
            CHECK.due("busiest(0, " + what + ")", x.busiest(0, what), -1);
        }
        CHECK.due("busiest(0, 0)", x.busiest(0, 0), 47);
        CHECK.due("busiest(9, 0)", x.busiest(9, 0), 38);
    }

    private static void dueRests(StaticDial x, int... rests) {
        CHECK.due("rests(0)", x.rests(0), rests.length);
        for (int k = 0; k < rests.length; k++) {
            CHECK.due("rest(0, " + k + ")", x.rest(0, k), rests[k]);
        }
        CHECK.due("rest(0, " + rests.length + ")", x.rest(0, rests.length), -2);
    }

    private static void gameOfFourHours() {
        CHECK.part("24: one of the next HOURS 0 .. 3 from now on");
        dueRests(Check.told("house a 1 1;"));
        dueRests(Check.told("house a 1 1;sound a 0 1;"), 1, 2, 3);
        dueRests(Check.told("house a 1 1;sound a 3 1;"), 30, 31, 32);
        dueRests(Check.told("house a 1 1;sound a 4 1;"));
        dueRests(Check.told("house a 1 1;sound a 0 1;sound a 3 1;"), 1, 2, 31, 32);
        dueRests(Check.told("house a 1 1;sound a 0 1;sound a 1 1;sound a 2 1;sound a 3 1;"));
        StaticDial x = Check.told("house a 1 1;sound a 4 1;sound a 0 1;");
        x.go(1);
        dueRests(x, 30, 31, 32);
        x.go(3);
        dueRests(x, 1, 2, 3);
        x.go(1);
        dueRests(x);
        // at the end of what can be told, where no hour comes round
        x = Check.told("house a 1 1;sound a 99 1;sound a 0 1;");
        x.go(96);
        dueRests(x, 30, 31, 32);
        x.go(3);
        dueRests(x, 1, 2, 3);
        x.go(1);
        dueRests(x);
        // another house's sounds are no matter
        dueRests(Check.told("house a 1 1;house b 1 1;sound b 0 1;"));
    }

    private static void restsNotSoMany() {
        CHECK.part("25: -2: there are no so many; NONE likewise, k is below 0");
        StaticDial x = Check.told("house a 1 1;house b 1 1;sound a 0 1;");
        for (int k : new int[] {3, 4, 16, MAX}) {
            CHECK.due("rest(0, " + k + ")", x.rest(0, k), -2);
        }
        CHECK.due("rest(1, 0)", x.rest(1, 0), -2);
        for (int k : new int[] {-1, MIN}) {
            CHECK.due("rest(0, " + k + ")", x.rest(0, k), -1);
            CHECK.due("rest(1, " + k + ")", x.rest(1, k), -1);
        }
        for (int house : new int[] {-1, 2, MIN, MAX}) {
            CHECK.due("rests(" + house + ")", x.rests(house), -1);
            CHECK.due("rest(" + house + ", 0)", x.rest(house, 0), -1);
            CHECK.due("rest(" + house + ", -1)", x.rest(house, -1), -1);
            CHECK.due("rest(" + house + ", 99)", x.rest(house, 99), -1);
        }
        CHECK.due("without houses", new StaticDial().rests(0), -1);
        CHECK.due("without houses", new StaticDial().rest(0, 0), -1);
    }

    private static void alone() {
        CHECK.part("26: HOUSES (bits) that HEAR nobody and that nobody HEARS");
        CHECK.due("without houses", new StaticDial().alone(), 0);
        CHECK.due("one", Check.told("house a 1 9;").alone(), 1);
        CHECK.due("none", Check.told(CHAIN).alone(), 0);
        CHECK.due("all", Check.told("house a 0 0;house b 4 0;house c 8 0;house d 12 0;house e 16 0;house f 20 0;").alone(),
            63);
        CHECK.due("who hears isn't, nor who is heard", Check.told("house a 0 9;house b 12 0;house c 50 0;").alone(), 4);
        CHECK.due("a step farther", Check.told("house a 0 9;house b 13 0;house c 50 0;").alone(), 7);
    }

    private static void codeOfTwentySounds() {
        CHECK.part("27: CODE: the fewest SOUNDS 0 .. 20 of KIND 1 (0: it does)");
        for (int n : new int[] {1, 2, 19, 20}) {
            CHECK.due("law learn " + n, Check.told("house a 1 1;house b 1 1;law learn " + n + ";").code(0, 1), n);
        }
        CHECK.due("law learn 21", Check.told("house a 1 1;house b 1 1;law learn 21;").code(0, 1), -2);
        StaticDial x = Check.told("house a 1 1;house b 1 1;law learn 21;");
        x.make(0, 5);
        CHECK.due("one was heard", x.code(0, 1), 20);
        for (int i = 0; i < 19; i++) {
            x.make(0, 5);
        }
        CHECK.due("twenty were heard", x.code(0, 1), 1);
        x.make(0, 5);
        CHECK.due("it does", x.code(0, 1), 0);
        x.turn(1, 90);
        CHECK.due("it does, though far away", x.code(0, 1), 0);
        CHECK.due("of kind 1", Check.told("house a 1 1;house b 1 1;law learn 5 - 2 * kind;").code(0, 1), 3);
        CHECK.due("too far away", Check.told("house a 1 0;house b 5 0;").code(0, 1), -2);
        // one behind another: what is heard changes the law
        CHECK.due("a law of heard", Check.told("house a 1 1;house b 1 1;law learn 30 - heard * 2;").code(0, 1), 10);
    }

    private static void codeOfOneAlone() {
        CHECK.part("27: nobody KNOWS it who doesn't now but that one; -2: by none; NONE: no such HOUSES, alike");
        StaticDial x = Check.told("house a 10 0;house b 10 0;house c 10 1;law learn 2 + gain;");
        CHECK.due("b is ahead of c", x.code(0, 1), 2);
        CHECK.due("c is behind b", x.code(0, 2), -2);
        x = Check.told("house a 10 0;house b 10 0;house c 10 0;");
        CHECK.due("both at once", x.code(0, 1), -2);
        x.turn(2, 50);
        x.make(0, 1);
        x.make(0, 1);
        x.turn(2, 10);
        CHECK.due("b knows it now", x.code(0, 2), 2);
        CHECK.due("b knows it now", x.code(0, 1), 0);
        for (int[] two : new int[][] {{0, 0}, {-1, 0}, {0, -1}, {3, 0}, {0, 3}, {MIN, 0}, {0, MAX}}) {
            CHECK.due("code(" + two[0] + ", " + two[1] + ")", x.code(two[0], two[1]), -1);
        }
        CHECK.due("without houses", new StaticDial().code(0, 1), -1);
    }

    private static void hideAtTheNearest() {
        CHECK.part("28: the DIAL nearest to its own (of two the lesser one)");
        CHECK.due("alone where it is", Check.told("house a 10 0;house b 14 0;").hide(0), 10);
        CHECK.due("of two the lesser one", Check.told("house a 10 0;house b 10 0;").hide(0), 6);
        CHECK.due("the nearest", Check.told("house a 11 0;house b 10 0;").hide(0), 14);
        CHECK.due("no dial below 0", Check.told("house a 2 0;house b 3 0;").hide(0), 7);
        CHECK.due("0", Check.told("house a 2 0;house b 4 0;").hide(0), 0);
        CHECK.due("no dial above 99", Check.told("house a 97 0;house b 96 0;").hide(0), 92);
        CHECK.due("99", Check.told("house a 97 0;house b 95 0;").hide(0), 99);
        CHECK.due("from end to end", Check.told("house a 0 0;house b 0 0;law reach 98;").hide(0), 99);
        CHECK.due("from end to end", Check.told("house a 99 0;house b 99 0;law reach 98;").hide(0), 0);
        // neither hears nor is heard
        CHECK.due("it is heard", Check.told("house a 10 0;house b 10 2;").hide(0), 4);
        CHECK.due("it hears", Check.told("house a 10 2;house b 10 0;").hide(0), 4);
        CHECK.due("of one house", Check.told("house a 50 9;").hide(0), 50);
    }

    private static void hideNowhere() {
        CHECK.part("28: -2: there is none; NONE: no such HOUSE");
        StaticDial x = Check.told("house a 99 0;house b 99 0;law reach 99;");
        CHECK.due("hide(0)", x.hide(0), -2);
        CHECK.due("hide(1)", x.hide(1), -2);
        CHECK.due("between", Check.told("house a 50 0;house b 49 0;house c 50 0;law reach 49;").hide(0), -2);
        CHECK.due("at 99", Check.told("house a 50 0;house b 49 0;law reach 49;").hide(0), 99);
        for (int house : new int[] {-1, 2, MIN, MAX}) {
            CHECK.due("hide(" + house + ")", x.hide(house), -1);
        }
        CHECK.due("without houses", new StaticDial().hide(0), -1);
    }

    private static void gossipInSteps() {
        CHECK.part("29: GOSSIP (n 0 .. 6; bits); NONE: no such ones");
        StaticDial x = Check.told(CHAIN + "law learn 1;");
        for (int n = 0; n <= 6; n++) {
            CHECK.due("nobody knows", x.gossip(0, n), 1);
        }
        // each is known by its neighbours, but for the first one, which makes no sound
        for (int i = 5; i >= 1; i--) {
            x.make(i, 1);
        }
        int[] want = {1, 3, 7, 15, 31, 63, 63};
        for (int n = 0; n <= 6; n++) {
            CHECK.due("gossip(0, " + n + ")", x.gossip(0, n), want[n]);
        }
        CHECK.due("a makes no sound", x.house(0, 5), 0);
        int[] last = {32, 48, 56, 60, 62, 62, 62};
        for (int n = 0; n <= 6; n++) {
            CHECK.due("gossip(5, " + n + ")", x.gossip(5, n), last[n]);
        }
        for (int n : new int[] {-1, 7, MIN, MAX}) {
            CHECK.due("gossip(0, " + n + ")", x.gossip(0, n), -1);
        }
        for (int house : new int[] {-1, 6, MIN, MAX}) {
            CHECK.due("gossip(" + house + ", 0)", x.gossip(house, 0), -1);
        }
        CHECK.due("without houses", new StaticDial().gossip(0, 0), -1);
    }

    private static void loudest() {
        CHECK.part("30: the first of several; -2: none is told");
        CHECK.due("without houses", new StaticDial().loudest(), -2);
        CHECK.due("without sounds", Check.told("house a 1 1;turn a 1 1;").loudest(), -2);
        CHECK.due("one", Check.told("house a 1 1;house b 1 1;sound b 99 1;").loudest(), 1);
        CHECK.due("several", Check.told("house a 1 1;house b 1 1;house c 1 1;sound c 0 1;sound b 0 1;").loudest(), 1);
        CHECK.due("most", Check.told("house a 1 1;house b 1 1;house c 1 1;sound b 0 9;sound c 0 1;sound c 9 1;").loudest(),
            2);
        StaticDial x = Check.told("house a 1 1;house b 1 1;sound a 0 1;");
        x.make(1, 1);
        x.make(1, 1);
        CHECK.due("sounds by call aren't told", x.loudest(), 0);
        x.go(50);
        CHECK.due("those that went by are", x.loudest(), 0);
    }

    private static void nextHeardByHours() {
        CHECK.part("31: 99 at most (1: this one); -2: not by then; NONE: no such ones, alike");
        String two = "house a 1 0;house b 1 0;sound a ";
        CHECK.due("this one", Check.told(two + "0 1;").nextHeard(1, 0), 1);
        CHECK.due("the next one", Check.told(two + "1 1;").nextHeard(1, 0), 2);
        CHECK.due("99", Check.told(two + "98 1;").nextHeard(1, 0), 99);
        CHECK.due("100", Check.told(two + "99 1;").nextHeard(1, 0), -2);
        StaticDial x = Check.told(two + "0 1;sound a 99 1;");
        x.make(0, 1);
        CHECK.due("once more than now", x.nextHeard(1, 0), 1);
        x.go(1);
        CHECK.due("99", x.nextHeard(1, 0), 99);
        x.go(98);
        CHECK.due("this one", x.nextHeard(1, 0), 1);
        x.go(1);
        CHECK.due("none comes", x.nextHeard(1, 0), -2);
        CHECK.due("b makes none", x.nextHeard(0, 1), -2);
        for (int[] pair : new int[][] {{0, 0}, {1, 1}, {-1, 0}, {0, -1}, {2, 0}, {0, 2}, {MIN, 0}, {0, MAX}}) {
            CHECK.due("nextHeard(" + pair[0] + ", " + pair[1] + ")", x.nextHeard(pair[0], pair[1]), -1);
        }
        CHECK.due("without houses", new StaticDial().nextHeard(0, 1), -1);
        // as it goes: by 50 all fade
        CHECK.due("fade 49", Check.told("house a 1 0;house b 5 1;sound a 1 1;fade 49;").nextHeard(1, 0), 2);
        CHECK.due("fade 50", Check.told("house a 1 0;house b 5 1;sound a 1 1;fade 50;").nextHeard(1, 0), -2);
    }

    private static void lureFewestThenNearest() {
        CHECK.part("32: the other one HEARS it, and fewest others do (fewest first, then the nearest, the lesser one)");
        CHECK.due("where it is", Check.told("house a 10 0;house b 13 0;").lure(0, 1), 10);
        CHECK.due("a step", Check.told("house a 10 0;house b 14 0;").lure(0, 1), 11);
        CHECK.due("fewest first", Check.told("house a 10 0;house b 13 0;house c 10 0;").lure(0, 1), 14);
        CHECK.due("of two the lesser one", Check.told("house a 10 0;house b 10 2;house c 10 0;").lure(0, 1), 6);
        CHECK.due("no way without c", Check.told("house a 20 0;house b 10 0;house c 10 0;").lure(0, 1), 13);
        CHECK.due("one rather than two",
            Check.told("house a 10 0;house b 12 0;house c 12 4;house d 9 0;").lure(0, 1), 13);
        CHECK.due("from far away", Check.told("house a 99 0;house b 0 0;").lure(0, 1), 3);
        String others = "house b 50 0;house c 50 0;house d 50 0;house e 50 0;house f 50 0;";
        for (int other = 1; other <= 5; other++) {
            CHECK.due("all or none, from 0", Check.told("house a 0 0;" + others).lure(0, other), 47);
            CHECK.due("all or none, from 99", Check.told("house a 99 0;" + others).lure(0, other), 53);
            CHECK.due("all wherever it is", Check.told("house a 99 0;" + others + "law reach 99;").lure(0, other), 99);
        }
    }

    private static void lureAtTheEnds() {
        CHECK.part("32: a DIAL 0 .. 99; NONE: no such HOUSES, alike");
        // b and c hear it about 0, c from 1 on
        CHECK.due("0", Check.told("house a 50 0;house b 0 0;house c 4 0;").lure(0, 1), 0);
        CHECK.due("99", Check.told("house a 50 0;house b 99 0;house c 95 0;").lure(0, 1), 99);
        CHECK.due("not below 0", Check.told("house a 1 0;house b 2 0;house c 0 0;").lure(0, 1), 4);
        CHECK.due("not above 99", Check.told("house a 98 0;house b 97 0;house c 99 0;").lure(0, 1), 95);
        // at one dial it is always heard
        CHECK.due("a law that is 0", Check.told("house a 50 0;house b 7 0;law reach 0;").lure(0, 1), 7);
        CHECK.due("from end to end", Check.told("house a 0 0;house b 99 0;law reach 0;").lure(0, 1), 99);
        CHECK.due("from end to end", Check.told("house a 99 0;house b 0 0;law reach 0;").lure(0, 1), 0);
        CHECK.due("a law below 0", Check.told("house a 50 0;house b 7 0;law reach 0 - 5;").lure(0, 1), 7);
        StaticDial x = Check.told("house a 50 0;house b 7 0;");
        for (int[] two : new int[][] {{0, 0}, {-1, 0}, {0, -1}, {2, 0}, {0, 2}, {MIN, 0}, {0, MAX}}) {
            CHECK.due("lure(" + two[0] + ", " + two[1] + ")", x.lure(two[0], two[1]), -1);
        }
        CHECK.due("without houses", new StaticDial().lure(0, 1), -1);
    }
}
