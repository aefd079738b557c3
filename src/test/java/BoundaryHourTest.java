import java.util.NoSuchElementException;

/** Promises 6 to 13, and of "Terms" the HOUR, who HEARS whom, the laws, ERROR and numbers: a test for each boundary. */
public final class BoundaryHourTest {
    private static final Check CHECK = new Check();
    private static final int MIN = Integer.MIN_VALUE;
    private static final int MAX = Integer.MAX_VALUE;
    private static final long ERROR = Long.MIN_VALUE;

    public static void main(String[] args) {
        noFartherApart();
        dialsDontMeetAtTheirEnds();
        reachOfALaw();
        turnsOfThisHour();
        soundsOfThisHour();
        hoursDontComeAgain();
        eachOtherHouse();
        mostHeard();
        knowsFromNowOn();
        learnOfALaw();
        driftOfALaw();
        dialsStayWithin();
        belowFade();
        gainIsNeverBelowNothing();
        eachHouseTakesANumber();
        numbers();
        asItGoes();
        bindsCloser();
        namesOfReach();
        namesOfLearn();
        namesOfDrift();
        truth();
        bothSidesAreWorkedOut();
        cutTowardsNothing();
        byNothing();
        valuesAboveAndBelow();
        whatALongCantHold();
        house();
        heard();
        sound();
        law();
        turn();
        make();
        valve();
        go();
        CHECK.end();
    }

    private static void noFartherApart() {
        CHECK.part("2: A HOUSE HEARS another one, if their DIALS are no farther apart than (near and GAIN without)");
        for (int gain = 0; gain <= 9; gain++) {
            StaticDial x = Check.told("house a 40 " + gain + ";house b 40 0;near 20;");
            for (int far = 0; far <= 31; far++) {
                x.turn(1, 40 + far);
                CHECK.due(gain + " hears up " + far, x.house(0, 2), far <= 20 + gain ? 2 : 0);
                CHECK.due("0 hears down " + far, x.house(1, 2), far <= 20 ? 1 : 0);
                x.turn(1, 40 - far);
                CHECK.due(gain + " hears down " + far, x.house(0, 2), far <= 20 + gain ? 2 : 0);
            }
        }
    }

    private static void dialsDontMeetAtTheirEnds() {
        CHECK.part("2: DIALS 0 and 99 are 99 apart");
        StaticDial x = Check.told("house a 0 9;house b 99 9;near 20;law learn far;");
        CHECK.due("house(0, 2)", x.house(0, 2), 0);
        CHECK.due("house(1, 2)", x.house(1, 2), 0);
        CHECK.due("law(1, 0, 1)", x.law(1, 0, 1), 99);
    }

    private static void reachOfALaw() {
        CHECK.part("2: E of reach (0 .. 99; near and GAIN without, with an ERROR)");
        dueReach("0", 0);
        dueReach("0 - 1", 0);
        dueReach("0 - 9999 * 9999 * 9999", 0);
        dueReach("1", 1);
        dueReach("98", 98);
        dueReach("99", 99);
        dueReach("100", 99);
        // 2 to the 32 and one more is no 1
        dueReach("4096 * 1024 * 1024 + 1", 99);
        dueReach("1 / 0", 5);
        dueReach("9999 * 9999 * 9999 * 9999", 5);
    }

    /** A house of gain 2 at 0 hears one so far away, but none that is farther. */
    private static void dueReach(String e, int most) {
        StaticDial x = Check.told("house a 0 2;house b 0 2;law reach " + e + ";");
        for (int far : new int[] {0, 1, most - 1, most, most + 1, 98, 99}) {
            if (far >= 0 && far <= 99) {
                x.turn(1, far);
                CHECK.due(e + " at " + far, x.house(0, 2), far <= most ? 2 : 0);
            }
        }
    }

    private static void turnsOfThisHour() {
        CHECK.part("(1) TURNS of this HOUR, by their numbers: DIAL is so");
        StaticDial x = Check.told("house a 50 0;turn a 99 7;turn a 0 99;turn a 1 20;turn a 1 0;");
        CHECK.due("told, but not yet", x.house(0, 0), 50);
        x.go(1);
        CHECK.due("at 0", x.house(0, 0), 99);
        x.go(1);
        CHECK.due("the later one of hour 1", x.house(0, 0), 0);
        x.go(97);
        CHECK.due("it is 99", x.count(4), 99);
        CHECK.due("not yet", x.house(0, 0), 0);
        x.go(1);
        CHECK.due("at 99", x.house(0, 0), 7);
    }

    private static void soundsOfThisHour() {
        CHECK.part("(2) SOUNDS of this HOUR, by their numbers");
        StaticDial x = Check.told("house a 50 0;house b 50 0;sound a 99 9;sound a 0 1;");
        CHECK.due("told, but not yet", x.heard(1, 0), 0);
        x.go(1);
        CHECK.due("at 0", x.heard(1, 0) * 10 + x.house(1, 6), 11);
        x.go(98);
        CHECK.due("it is 99", x.count(4) * 10 + x.heard(1, 0), 991);
        x.go(1);
        CHECK.due("at 99", x.heard(1, 0) * 10 + x.house(1, 6), 29);
        // the last of an hour by its number is the one that it heard last
        x = Check.told("house a 50 0;house b 50 0;house c 50 0;sound c 0 8;sound a 0 3;");
        x.go(1);
        CHECK.due("house(1, 6)", x.house(1, 6), 3);
        CHECK.due("house(0, 6)", x.house(0, 6), 8);
        CHECK.due("house(2, 6)", x.house(2, 6), 3);
    }

    private static void hoursDontComeAgain() {
        CHECK.part("Then it is the next HOUR: those behind 99 are told nothing");
        StaticDial x = Check.told("house a 50 0;house b 50 0;sound a 0 1;turn b 1 90;turn b 0 50;");
        x.go(99);
        x.turn(1, 50);
        x.go(99);
        CHECK.due("it is 198", x.count(4), 198);
        CHECK.due("heard(1, 0)", x.heard(1, 0), 1);
        CHECK.due("house(1, 0)", x.house(1, 0), 50);
        CHECK.due("nextHeard(1, 0)", x.nextHeard(1, 0), -2);
    }

    private static void eachOtherHouse() {
        CHECK.part("(2) each other HOUSE that HEARS the one that makes it");
        StaticDial x = Check.told("house a 50 0;");
        CHECK.due("nobody else", x.make(0, 1), 0);
        CHECK.due("house(0, 6)", x.house(0, 6), 0);
        CHECK.due("count(6)", x.count(6), 0);
        x = Check.told("house a 50 0;house b 50 0;house c 50 0;house d 50 0;house e 50 0;house f 50 0;often 1;");
        CHECK.due("make(0, 1)", x.make(0, 1), 62);
        CHECK.due("make(5, 1)", x.make(5, 1), 31);
        CHECK.due("count(6)", x.count(6), 10);
        CHECK.due("count(5)", x.count(5), 10);
    }

    private static void mostHeard() {
        CHECK.part("(2) has HEARD it once more (999 at most)");
        // an object's answers behind its 512th call are free: the class keeps the bound all the same
        StaticDial x = Check.told("house a 50 0;house b 50 0;sound a 3 2;");
        for (int i = 1; i <= 998; i++) {
            x.make(0, 1);
        }
        CHECK.due("heard(1, 0)", x.heard(1, 0), 998);
        CHECK.due("nextHeard(1, 0)", x.nextHeard(1, 0), 4);
        x.make(0, 1);
        CHECK.due("heard(1, 0)", x.heard(1, 0), 999);
        CHECK.due("31: HEARD 999 times, too", x.nextHeard(1, 0), -2);
        CHECK.due("ahead(9, 1, 0)", x.ahead(9, 1, 0), 0);
        CHECK.due("make(0, 7)", x.make(0, 7), 2);
        CHECK.due("heard(1, 0)", x.heard(1, 0), 999);
        CHECK.due("house(1, 6)", x.house(1, 6), 7);
        CHECK.due("count(6)", x.count(6), 999);
    }

    private static void knowsFromNowOn() {
        CHECK.part("(2) KNOWS it from now on, if that is E of learn at least");
        StaticDial x = Check.told("house a 50 0;house b 50 0;law learn 3 + 96 * (heard > 3);");
        int[] knows = {0, 0, 1, 1, 1};
        for (int i = 0; i < knows.length; i++) {
            x.make(0, 1);
            CHECK.due("behind sound " + (i + 1), x.house(1, 4), knows[i]);
        }
        x.turn(0, 90);
        x.go(9);
        CHECK.due("far away", x.house(1, 4), 1);
    }

    private static void learnOfALaw() {
        CHECK.part("(2) E of learn (1 .. 99; often without, with an ERROR)");
        dueLearn("often 4;", 4);
        dueLearn("law learn 0;often 4;", 1);
        dueLearn("law learn 0 - 9999;often 4;", 1);
        dueLearn("law learn 1;often 4;", 1);
        dueLearn("law learn 2;often 4;", 2);
        dueLearn("law learn 98;", 98);
        dueLearn("law learn 99;", 99);
        dueLearn("law learn 100;", 99);
        dueLearn("law learn 9999 * 9999 * 9999;", 99);
        dueLearn("law learn 1 / 0;often 4;", 4);
        dueLearn("law learn 9999 * 9999 * 9999 * 9999;often 4;", 4);
        dueLearn("law learn 1 / 0;", 2);
    }

    private static void dueLearn(String lines, int needed) {
        StaticDial x = Check.told("house a 50 0;house b 50 0;" + lines);
        for (int i = 1; i < needed; i++) {
            x.make(0, 1);
        }
        CHECK.due(lines + " not yet", x.house(1, 4), 0);
        x.make(0, 1);
        CHECK.due(lines + " now", x.house(1, 4), 1);
    }

    private static void driftOfALaw() {
        CHECK.part("(3) E of drift (-9 .. 9; 0 without, with an ERROR)");
        dueDrift("", 0);
        dueDrift("law drift 0;", 0);
        dueDrift("law drift 1;", 1);
        dueDrift("law drift 8;", 8);
        dueDrift("law drift 9;", 9);
        dueDrift("law drift 10;", 9);
        dueDrift("law drift 9999 * 9999 * 9999;", 9);
        dueDrift("law drift 0 - 1;", -1);
        dueDrift("law drift 0 - 9;", -9);
        dueDrift("law drift 0 - 10;", -9);
        dueDrift("law drift 0 - 9999 * 9999 * 9999;", -9);
        dueDrift("law drift 1 / 0;", 0);
        dueDrift("law drift 9999 * 9999 * 9999 * 9999;", 0);
    }

    private static void dueDrift(String line, int more) {
        StaticDial x = Check.told("house a 50 0;" + line);
        x.go(1);
        CHECK.due(line, x.house(0, 0), 50 + more);
        x.go(1);
        CHECK.due(line + " again", x.house(0, 0), 50 + 2 * more);
    }

    private static void dialsStayWithin() {
        CHECK.part("(3) DIAL of each HOUSE is more, 0 .. 99");
        StaticDial x = Check.told("house a 99 0;house b 98 0;house c 91 0;house d 90 0;house e 89 0;law drift 9;");
        x.go(1);
        int[] up = {99, 99, 99, 99, 98};
        for (int i = 0; i < up.length; i++) {
            CHECK.due("house(" + i + ", 0)", x.house(i, 0), up[i]);
        }
        x = Check.told("house a 0 0;house b 1 0;house c 8 0;house d 9 0;house e 10 0;law drift 0 - 9;");
        x.go(1);
        int[] down = {0, 0, 0, 0, 1};
        for (int i = 0; i < down.length; i++) {
            CHECK.due("house(" + i + ", 0)", x.house(i, 0), down[i]);
        }
        x.go(99);
        CHECK.due("house(4, 0)", x.house(4, 0), 0);
        // all of six
        x = Check.told("house a 0 0;house b 10 0;house c 20 0;house d 30 0;house e 40 0;house f 50 0;fade 100;"
            + "law drift 9;law reach 99;law learn 1;sound f 0 1;sound a 0 1;");
        x.go(1);
        for (int i = 0; i < 6; i++) {
            CHECK.due("house(" + i + ", 0)", x.house(i, 0), 10 * i + 9);
        }
        CHECK.due("count(5)", x.count(5), 10);
    }

    private static long next(long number) {
        return (number * 1103515245L + 12345L) % 2147483648L;
    }

    private static void belowFade() {
        CHECK.part("(4) a number modulo 100 (no number, if fade is 0 or 100): below fade GAIN is 1 less");
        boolean[] met = new boolean[100];
        for (int seed = 0; seed < 700; seed++) {
            int number = (int) (next(seed) / 65536 % 100);
            if (!met[number]) {
                met[number] = true;
                dueGain(seed, number, 1);
                dueGain(seed, number + 1, 0);
            }
        }
        CHECK.due("numbers 0 and 99 were met", met[0] && met[99], true);
    }

    /** A house of gain 1 behind an hour; fades of 0 and 100 are no matter of numbers. */
    private static void dueGain(int seed, int fade, int gain) {
        StaticDial x = Check.told("house a 1 1;fade " + fade + ";seed " + seed + ";");
        x.go(1);
        CHECK.due("fade " + fade + ", seed " + seed, x.house(0, 1), gain);
    }

    private static void gainIsNeverBelowNothing() {
        CHECK.part("(4) GAIN is 1 less, 0 at least");
        StaticDial x = Check.told("house a 1 0;house b 1 1;house c 1 9;fade 100;");
        x.go(1);
        CHECK.due("house(0, 1)", x.house(0, 1), 0);
        CHECK.due("house(1, 1)", x.house(1, 1), 0);
        CHECK.due("house(2, 1)", x.house(2, 1), 8);
        x.go(7);
        CHECK.due("house(2, 1)", x.house(2, 1), 1);
        x.go(1);
        CHECK.due("house(2, 1)", x.house(2, 1), 0);
        x.go(99);
        CHECK.due("count(7)", x.count(7), 0);
        CHECK.due("ahead(99, 3, 0)", x.ahead(99, 3, 0), 0);
        x = Check.told("house a 1 0;fade 50;");
        x.go(99);
        CHECK.due("house(0, 1)", x.house(0, 1), 0);
    }

    private static void eachHouseTakesANumber() {
        CHECK.part("(4) by numbers each HOUSE: a number");
        // a house of gain 0 takes one, too
        StaticDial x = Check.told("house a 1 0;house b 1 9;house c 1 9;fade 45;seed 12;");
        long number = 12;
        int b = 9;
        int c = 9;
        for (int hour = 0; hour < 12; hour++) {
            number = next(number);
            number = next(number);
            b = Math.max(0, b - (number / 65536 % 100 < 45 ? 1 : 0));
            number = next(number);
            c = Math.max(0, c - (number / 65536 % 100 < 45 ? 1 : 0));
            x.go(1);
            CHECK.due("house(1, 1)", x.house(1, 1), b);
            CHECK.due("house(2, 1)", x.house(2, 1), c);
        }
    }

    private static void numbers() {
        CHECK.part("Numbers: times 1103515245 and 12345, without what is above 31 bits, by 65536");
        for (int seed : new int[] {0, 1, 2, 65535, 65536, 99998, 99999}) {
            for (int fade : new int[] {20, 50, 80}) {
                StaticDial x = Check.told("house a 1 9;house b 1 9;fade " + fade + ";seed " + seed + ";");
                long number = seed;
                int[] gain = {9, 9};
                for (int hour = 0; hour < 20; hour++) {
                    for (int i = 0; i < 2; i++) {
                        number = next(number);
                        gain[i] = Math.max(0, gain[i] - (number / 65536 % 100 < fade ? 1 : 0));
                    }
                }
                x.go(20);
                CHECK.due("seed " + seed + ", fade " + fade, x.count(7), gain[0] + gain[1]);
            }
        }
    }

    private static void asItGoes() {
        CHECK.part("AS IT GOES: without numbers: all fade, if fade is 50 at least");
        int[] fades = {0, 1, 49, 50, 51, 99, 100};
        int[] gains = {9, 9, 9, 5, 5, 5, 5};
        for (int i = 0; i < fades.length; i++) {
            StaticDial x = Check.told("house a 1 9;house b 1 9;fade " + fades[i] + ";");
            CHECK.due("fade " + fades[i], x.ahead(4, 3, 0), gains[i]);
            CHECK.due("fade " + fades[i], x.ahead(4, 3, 1), gains[i]);
        }
    }

    private static StaticDial named(String law, String e) {
        StaticDial x = Check.told("house a 10 4;house b 30 7;house c 30 1;often 1;law " + law + " " + e + ";");
        x.go(3);
        return x;
    }

    private static void namesOfReach() {
        CHECK.part("NAMES of reach");
        dueName("reach", "dial", 30, 30);
        dueName("reach", "gain", 7, 7);
        dueName("reach", "far", 20, 20);
        dueName("reach", "kind", 0, 0);
        dueName("reach", "heard + 99", 99, 101);
        dueName("reach", "knows + 99", 99, 100);
        dueName("reach", "hour + 90", 93, 93);
        // the kind is 0 where it is asked who hears a sound, too
        StaticDial x = Check.told("house a 10 0;house b 11 0;house c 10 0;law reach kind;");
        CHECK.due("make(0, 9)", x.make(0, 9), 4);
        CHECK.due("house(0, 3)", x.house(0, 3), 4);
    }

    private static void namesOfLearn() {
        CHECK.part("NAMES of learn");
        StaticDial x = Check.told("house a 10 9;house b 22 9;often 1;law learn kind * 1000 + far * 10 + heard;");
        CHECK.due("law(1, 1, 0)", x.law(1, 1, 0), 120);
        x.make(0, 1);
        x.make(0, 9);
        CHECK.due("of KIND 0, heard as it is", x.law(1, 1, 0), 122);
        CHECK.due("from the other side", x.law(1, 0, 1), 120);
        // this time, too: the second sound is the one by which it is learnt
        x = Check.told("house a 10 9;house b 22 9;law learn 3 - heard;");
        x.make(0, 1);
        CHECK.due("1 is below 2", x.house(1, 4), 0);
        x.make(0, 1);
        CHECK.due("2 is not below 1", x.house(1, 4), 1);
        x = Check.told("house a 10 9;house b 22 9;law learn kind;");
        x.make(0, 2);
        CHECK.due("kind 2", x.house(1, 4), 0);
        x.make(0, 3);
        CHECK.due("kind 3", x.house(1, 4), 0);
        x.make(0, 3);
        CHECK.due("kind 3", x.house(1, 4), 1);
    }

    private static void namesOfDrift() {
        CHECK.part("NAMES of drift: far, kind, heard 0");
        StaticDial x = Check.told("house a 10 9;house b 12 8;often 1;law drift far + kind + heard;");
        x.make(0, 9);
        CHECK.due("law(2, 1, 0)", x.law(2, 1, 0), 0);
        x.go(1);
        CHECK.due("house(1, 0)", x.house(1, 0), 12);
        x = Check.told("house a 10 9;house b 12 8;often 1;law drift dial * 1000 + gain * 100 + knows * 10 + hour;");
        x.make(0, 9);
        CHECK.due("law(2, 0, 1)", x.law(2, 0, 1), 10900);
        CHECK.due("law(2, 1, 0)", x.law(2, 1, 0), 12810);
        x.go(5);
        CHECK.due("law(2, 1, 0)", x.law(2, 1, 0), 57815);
    }

    /** What b's law of a is at hour 3, and behind two sounds of a, by which it knows a. */
    private static void dueName(String law, String e, long first, long then) {
        StaticDial x = named(law, e);
        int what = law.equals("reach") ? 0 : 1;
        CHECK.due(e, x.law(what, 1, 0), first);
        x.turn(0, 30);
        x.make(0, 5);
        x.make(0, 6);
        x.turn(0, 10);
        CHECK.due(e + " behind two sounds", x.law(what, 1, 0), then);
    }

    private static void dueValue(String e, long want) {
        CHECK.due(e, Check.told("house a 10 0;law drift " + e + ";").law(2, 0, 0), want);
    }

    private static void bindsCloser() {
        CHECK.part("E: A { or A }, A: B { and B }, C: S [ .. S ], S: T { ( + | - ) T }, T: P { ( * | / ) P }");
        dueValue("7 * 3 / 2", 10);
        dueValue("7 / 2 * 3", 9);
        dueValue("7 * (3 / 2)", 7);
        dueValue("100 / 10 / 5", 2);
        dueValue("10 - 4 + 3", 9);
        dueValue("10 + 4 - 3 - 2", 9);
        dueValue("10 - (4 + 3)", 3);
        dueValue("2 + 3 * 4 - 6 / 2", 11);
        dueValue("1 + 2 < 2 * 2", 1);
        dueValue("not 1 < 2 or 1 = 1", 1);
        dueValue("not 0 and 0 or 0", 0);
        dueValue("1 or 1 and 0", 1);
        dueValue("0 and 0 or 1", 1);
        dueValue("0 and (0 or 1)", 0);
        dueValue("not not 7 and not 0", 1);
        dueValue("1 - 1 and 1 or 2 - 2", 0);
    }

    private static void truth() {
        CHECK.part("comparisons, and, or, not are 1 or 0 (what isn't 0 is as 1)");
        dueValue("not 0", 1);
        dueValue("not 1", 0);
        dueValue("not 2", 0);
        dueValue("not (0 - 1)", 0);
        dueValue("(0 - 1) and 9999", 1);
        dueValue("(0 - 1) and 0", 0);
        dueValue("0 or (0 - 1)", 1);
        dueValue("2 or 3", 1);
        dueValue("0 or 0", 0);
        String[] signs = {"<", "<=", "=", "<>", ">=", ">"};
        int[][] want = {{1, 0, 0}, {1, 1, 0}, {0, 1, 0}, {1, 0, 1}, {0, 1, 1}, {0, 0, 1}};
        for (int i = 0; i < signs.length; i++) {
            dueValue("4 " + signs[i] + " 5", want[i][0]);
            dueValue("5 " + signs[i] + " 5", want[i][1]);
            dueValue("6 " + signs[i] + " 5", want[i][2]);
            dueValue("(0 - 1) " + signs[i] + " 0", want[i][0]);
        }
    }

    private static void bothSidesAreWorkedOut() {
        CHECK.part("both sides are worked out");
        dueValue("0 and 1 / 0", ERROR);
        dueValue("1 / 0 and 0", ERROR);
        dueValue("1 or 1 / 0", ERROR);
        dueValue("1 / 0 or 1", ERROR);
        dueValue("0 * (1 / 0)", ERROR);
        dueValue("1 / 0 = 1 / 0", ERROR);
        dueValue("not 1 / 0", ERROR);
    }

    private static void cutTowardsNothing() {
        CHECK.part("/ is cut towards 0");
        dueValue("7 / 2", 3);
        dueValue("(0 - 7) / 2", -3);
        dueValue("7 / (0 - 2)", -3);
        dueValue("(0 - 7) / (0 - 2)", 3);
        dueValue("1 / 2", 0);
        dueValue("(0 - 1) / 2", 0);
        dueValue("0 / 5", 0);
        dueValue("0 / (0 - 5)", 0);
        dueValue("1000 * 1000 * 1000 * 1000 / (0 - 1)", -1000000000000L);
    }

    private static void byNothing() {
        CHECK.part("ERROR: / by 0");
        dueValue("1 / 0", ERROR);
        dueValue("0 / 0", ERROR);
        dueValue("(0 - 1) / 0", ERROR);
        dueValue("1 / gain", ERROR);
        dueValue("1 / (1 / 2)", ERROR);
        dueValue("1 / (1 < 0)", ERROR);
        dueValue("1 / 1", 1);
    }

    private static void valuesAboveAndBelow() {
        CHECK.part("ERROR: a value above 10 to the 12 or below 0 by more than that");
        String most = "1000 * 1000 * 1000 * 1000";
        dueValue(most, 1000000000000L);
        dueValue(most + " + 0", 1000000000000L);
        dueValue(most + " + 1", ERROR);
        dueValue("1 + " + most, ERROR);
        dueValue(most + " - 1", 999999999999L);
        dueValue("0 - " + most, -1000000000000L);
        dueValue("0 - " + most + " - 1", ERROR);
        dueValue("0 - 1 - " + most, ERROR);
        dueValue(most + " - (0 - 1)", ERROR);
        dueValue("(0 - 1000) * 1000 * 1000 * 1000", -1000000000000L);
        dueValue("(0 - 1000) * 1000 * 1000 * 1001", ERROR);
        dueValue("1000 * 1000 * 1000 * (0 - 1001)", ERROR);
        dueValue("(0 - 1000) * 1000 * 1000 * (0 - 1000)", 1000000000000L);
        dueValue("(0 - 1000) * 1000 * 1000 * (0 - 1001)", ERROR);
        // on the way, too
        dueValue(most + " + 1 - 1", ERROR);
        dueValue("(" + most + " + 1) / 2", ERROR);
        dueValue("0 and " + most + " + 1", ERROR);
        dueValue("9999 * 9999 * 9999", 999700029999L);
        dueValue("9999 * 9999 * 9999 + 9999 * 9999 * 3", 999999970002L);
        dueValue("9999 * 9999 * 9999 + 9999 * 9999 * 4", ERROR);
        dueValue(most + " = " + most, 1);
    }

    private static void whatALongCantHold() {
        CHECK.part("VALUES are longs: no product comes round");
        String half = "4096 * 4096 * 4096";
        dueValue("(" + half + ") * (" + half + ")", ERROR);
        dueValue("(0 - " + half + ") * (" + half + ")", ERROR);
        String most = "(1000 * 1000 * 1000 * 1000)";
        dueValue(most + " * " + most, ERROR);
        dueValue("(0 - " + most + ") * (0 - " + most + ")", ERROR);
        dueValue(most + " * 0", 0);
        dueValue("0 * " + most, 0);
        dueValue("(0 - " + most + ") * 1", -1000000000000L);
        // an int would have come round
        dueValue("4096 * 1024 * 512", 2147483648L);
        dueValue("4096 * 1024 * 1024", 4294967296L);
        dueValue("0 - 4096 * 1024 * 1024 - 1", -4294967297L);
    }

    private static String thrown(StaticDial x, int house, int what) {
        try {
            return "" + x.house(house, what);
        } catch (IndexOutOfBoundsException e) {
            return "IndexOutOfBoundsException";
        } catch (NoSuchElementException e) {
            return "NoSuchElementException";
        }
    }

    private static void house() {
        CHECK.part("6: IndexOutOfBoundsException: no such HOUSE. NoSuchElementException: no such what");
        String six = "house a 1 1;house b 1 1;house c 1 1;house d 1 1;house e 1 1;house f 97 6;";
        for (StaticDial x : new StaticDial[] {new StaticDial(), Check.told("near 1;"), Check.told("house a 9 9;")}) {
            for (int house : new int[] {-1, 1, 5, 6, MIN, MAX}) {
                for (int what : new int[] {-1, 0, 6, 7}) {
                    CHECK.due("house", thrown(x, house, what), "IndexOutOfBoundsException");
                }
            }
        }
        CHECK.due("house(0, 0) without houses", thrown(new StaticDial(), 0, 0), "IndexOutOfBoundsException");
        StaticDial x = Check.told(six);
        CHECK.due("house(5, 0)", thrown(x, 5, 0), "97");
        CHECK.due("house(5, 1)", thrown(x, 5, 1), "6");
        CHECK.due("house(0, 2)", thrown(x, 0, 2), "30");
        CHECK.due("house(5, 2)", thrown(x, 5, 2), "0");
        CHECK.due("house(6, 0)", thrown(x, 6, 0), "IndexOutOfBoundsException");
        for (int house = 0; house < 6; house++) {
            CHECK.due("house(" + house + ", 6)", thrown(x, house, 6), "0");
            for (int what : new int[] {-1, 7, MIN, MAX}) {
                CHECK.due("house(" + house + ", " + what + ")", thrown(x, house, what), "NoSuchElementException");
            }
        }
        CHECK.part("6: the KIND that it HEARD last (0 at first)");
        x.make(0, 9);
        CHECK.due("house(1, 6)", thrown(x, 1, 6), "9");
        x.make(0, 1);
        CHECK.due("house(1, 6)", thrown(x, 1, 6), "1");
        CHECK.due("house(0, 6): its own isn't heard", thrown(x, 0, 6), "0");
        CHECK.due("house(5, 6): too far away", thrown(x, 5, 6), "0");
    }

    private static void heard() {
        CHECK.part("7: NONE: no such ones, alike");
        CHECK.due("without houses", new StaticDial().heard(0, 1), -1);
        StaticDial x = Check.told("house a 1 1;house b 1 1;");
        CHECK.due("heard(0, 1)", x.heard(0, 1), 0);
        CHECK.due("heard(1, 0)", x.heard(1, 0), 0);
        for (int[] two : new int[][] {{0, 0}, {1, 1}, {-1, 0}, {0, -1}, {2, 0}, {0, 2}, {2, 2}, {-1, -1}, {MIN, 0},
            {0, MAX}}) {
            CHECK.due("heard(" + two[0] + ", " + two[1] + ")", x.heard(two[0], two[1]), -1);
        }
    }

    private static void sound() {
        CHECK.part("8: at an HOUR 0 .. 99 as told (0: none); NONE: no such ones");
        StaticDial x = Check.told("house a 1 1;house b 1 1;sound a 0 9;sound a 99 1;");
        CHECK.due("sound(0, 0)", x.sound(0, 0), 9);
        CHECK.due("sound(0, 99)", x.sound(0, 99), 1);
        CHECK.due("sound(0, 50)", x.sound(0, 50), 0);
        CHECK.due("sound(1, 0)", x.sound(1, 0), 0);
        for (int[] which : new int[][] {{0, -1}, {0, 100}, {0, MIN}, {0, MAX}, {-1, 0}, {2, 0}, {MIN, 0}, {MAX, 0}}) {
            CHECK.due("sound(" + which[0] + ", " + which[1] + ")", x.sound(which[0], which[1]), -1);
        }
        x.make(1, 4);
        CHECK.due("as told, not as made", x.sound(1, 0), 0);
        x.go(99);
        CHECK.due("at any hour", x.sound(0, 0), 9);
        CHECK.due("without houses", new StaticDial().sound(0, 0), -1);
    }

    private static void law() {
        CHECK.part("9: Long.MIN_VALUE: an ERROR, no such law, no such ones, alike");
        StaticDial x = Check.told("house a 1 1;house b 5 1;law reach 0 - far;law learn 100 + far;law drift 10 + dial;");
        CHECK.due("reach as it is worked out, below 0", x.law(0, 0, 1), -4);
        CHECK.due("learn as it is worked out, above 99", x.law(1, 0, 1), 104);
        CHECK.due("drift as it is worked out, above 9", x.law(2, 1, 0), 15);
        for (int other : new int[] {-1, 0, 1, 2, MIN, MAX}) {
            CHECK.due("2 drift: the other one isn't looked at", x.law(2, 0, other), 11);
        }
        for (int what : new int[] {0, 1}) {
            for (int[] two : new int[][] {{0, 0}, {1, 1}, {-1, 0}, {0, -1}, {2, 0}, {0, 2}, {MIN, 0}, {0, MAX}}) {
                CHECK.due("law of " + two[0] + ", " + two[1], x.law(what, two[0], two[1]), ERROR);
            }
        }
        for (int house : new int[] {-1, 2, MIN, MAX}) {
            CHECK.due("drift of " + house, x.law(2, house, 0), ERROR);
        }
        for (int what : new int[] {-1, 3, MIN, MAX}) {
            CHECK.due("law " + what, x.law(what, 0, 1), ERROR);
        }
        x = Check.told("house a 1 1;house b 5 1;law reach 1 / 0;law learn 1 / (gain - 1);law drift 1 / 0;");
        StaticDial y = Check.told("house a 1 1;house b 5 1;");
        for (int what = 0; what <= 2; what++) {
            CHECK.due("an ERROR", x.law(what, 0, 1), ERROR);
            CHECK.due("a law that isn't told", y.law(what, 0, 1), ERROR);
            CHECK.due("without houses", new StaticDial().law(what, 0, 1), ERROR);
        }
    }

    private static void turn() {
        CHECK.part("10: A HOUSE TURNS to a DIAL 0 .. 99 now: true; false: no such ones, it is there");
        StaticDial x = Check.told("house a 50 1;");
        CHECK.due("turn(0, 0)", x.turn(0, 0), true);
        CHECK.due("it is there", x.turn(0, 0), false);
        CHECK.due("turn(0, 99)", x.turn(0, 99), true);
        CHECK.due("it is there", x.turn(0, 99), false);
        for (int dial : new int[] {-1, 100, MIN, MAX}) {
            CHECK.due("turn(0, " + dial + ")", x.turn(0, dial), false);
        }
        for (int house : new int[] {-1, 1, MIN, MAX}) {
            CHECK.due("turn(" + house + ", 5)", x.turn(house, 5), false);
        }
        CHECK.due("house(0, 0)", x.house(0, 0), 99);
        CHECK.due("count(10)", x.count(10), 2);
        CHECK.due("without houses", new StaticDial().turn(0, 5), false);
        x = Check.told("house a 50 1;turn a 0 20;");
        x.turn(0, 60);
        x.go(1);
        CHECK.due("a told turn comes behind it", x.turn(0, 20), false);
    }

    private static void make() {
        CHECK.part("11: a SOUND of a KIND 1 .. 9 now: HOUSES (bits) that HEARD it; NONE: no such ones");
        StaticDial x = Check.told("house a 50 1;house b 54 1;house c 54 0;house d 90 9;");
        CHECK.due("make(0, 1)", x.make(0, 1), 2);
        CHECK.due("make(0, 9)", x.make(0, 9), 2);
        CHECK.due("nobody", x.make(3, 5), 0);
        CHECK.due("count(10)", x.count(10), 3);
        for (int kind : new int[] {0, 10, -1, MIN, MAX}) {
            CHECK.due("make(0, " + kind + ")", x.make(0, kind), -1);
        }
        for (int house : new int[] {-1, 4, MIN, MAX}) {
            CHECK.due("make(" + house + ", 1)", x.make(house, 1), -1);
        }
        CHECK.due("count(10)", x.count(10), 3);
        CHECK.due("count(6)", x.count(6), 2);
        CHECK.due("without houses", new StaticDial().make(0, 1), -1);
    }

    private static void valve() {
        CHECK.part("12: GAIN as told: GAIN; -2: it has that; NONE: no such HOUSE");
        StaticDial x = Check.told("house a 50 9;house b 50 0;house c 50 1;fade 100;");
        for (int house = 0; house < 3; house++) {
            CHECK.due("it has that", x.valve(house), -2);
        }
        x.go(9);
        CHECK.due("valve(0)", x.valve(0), 9);
        CHECK.due("it has that", x.valve(0), -2);
        CHECK.due("0 as told", x.valve(1), -2);
        CHECK.due("valve(2)", x.valve(2), 1);
        CHECK.due("count(10)", x.count(10), 2);
        for (int house : new int[] {-1, 3, MIN, MAX}) {
            CHECK.due("valve(" + house + ")", x.valve(house), -1);
        }
        CHECK.due("without houses", new StaticDial().valve(0), -1);
    }

    private static void go() {
        CHECK.part("13: So many HOURS (0 .. 99) go by: which one it is; NONE, and none does: no such number, behind 9000");
        StaticDial x = new StaticDial();
        CHECK.due("go(0)", x.go(0), 0);
        CHECK.due("go(1)", x.go(1), 1);
        for (int n : new int[] {-1, 100, MIN, MAX}) {
            CHECK.due("go(" + n + ")", x.go(n), -1);
        }
        CHECK.due("count(4)", x.count(4), 1);
        for (int hour = 100; hour <= 8911; hour += 99) {
            CHECK.due("go(99)", x.go(99), hour);
        }
        CHECK.due("count(4)", x.count(4), 8911);
        CHECK.due("9001 and more", x.go(90), -1);
        CHECK.due("9010", x.go(99), -1);
        CHECK.due("none went by", x.count(4), 8911);
        CHECK.due("go(88)", x.go(88), 8999);
        CHECK.due("9001", x.go(2), -1);
        CHECK.due("9000", x.go(1), 9000);
        CHECK.due("9001", x.go(1), -1);
        CHECK.due("9000", x.go(0), 9000);
        CHECK.due("count(4)", x.count(4), 9000);
    }
}
