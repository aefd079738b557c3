import java.util.NoSuchElementException;

/** Each promise by hand: ordinary calls, the edges that the document names, wrong calls. (3 and 4: FaultsTest, too.) */
public final class PromisesTest {
    private static final Check CHECK = new Check();
    private static final int MIN = Integer.MIN_VALUE;
    private static final int MAX = Integer.MAX_VALUE;

    /** a hears b, b hears a, c hears b; d is alone. */
    private static final String FOUR = "house a 10 1;house b 13 2;house c 20 5;house d 60 0;turn d 2 24;"
        + "sound a 0 3;sound b 1 4;sound a 2 3;sound c 3 3;sound b 3 3;";

    public static void main(String[] args) {
        newObject();
        tape();
        textBehindTexts();
        names();
        house();
        heardAndSound();
        law();
        lawValues();
        turnMakeValve();
        go();
        hour();
        drift();
        fading();
        ahead();
        first();
        secret();
        spread();
        notes();
        strikes();
        nears();
        reached();
        before();
        warnAndAlone();
        busiest();
        game();
        code();
        hideAndLure();
        loudest();
        nextHeard();
        chance();
        tried();
        undo();
        image();
        counts();
        CHECK.end();
    }

    private static void newObject() {
        CHECK.part("1");
        StaticDial x = new StaticDial();
        for (int what = 0; what <= 10; what++) {
            CHECK.due("count(" + what + ")", x.count(what), 0);
        }
        CHECK.due("fault(0)", x.fault(0), 0);
        CHECK.due("fault(1)", x.fault(1), -1);
        CHECK.due("text(1)", x.text(1), -2);
        CHECK.due("back()", x.back(), -1);
        CHECK.due("warn()", x.warn(), 0);
        CHECK.due("nears()", x.nears(), 1023);
        CHECK.due("NONE", StaticDial.NONE, -1);
    }

    private static void tape() {
        CHECK.part("2");
        StaticDial x = new StaticDial();
        for (int i = 1; i <= 35; i++) {
            CHECK.due("feed", x.feed(0x20202020, 0x20202020, 0x20202020, 0x20202020, 0x20202020), 20 * i);
        }
        CHECK.due("feed", x.feed(0, 0, 0, 0, 0), -1);
        CHECK.part("3");
        CHECK.due("text(701)", x.text(701), -2);
        CHECK.due("text(-1)", x.text(-1), -2);
        CHECK.due("text(min)", x.text(MIN), -2);
        CHECK.due("feed", x.feed(0, 0, 0, 0, 0), -1);
        CHECK.due("text(700)", x.text(700), 0);
        CHECK.due("text(1)", x.text(1), -2);
        // the highest byte first: "near", " 1; ", and what is behind the first n bytes is gone
        CHECK.due("feed", x.feed(0x6e656172, 0x20313b20, 0, -1, MIN), 20);
        CHECK.due("text(8)", x.text(8), 1);
        CHECK.due("text(1)", x.text(1), -2);
        CHECK.due("feed", x.feed(0x80ffffff, 0, 0, 0, 0), 20);
        CHECK.due("text(1)", x.text(1), -1);
        CHECK.due("fault(0)", x.fault(0), 1);
        CHECK.due("feed", x.feed(0, 0, 0, 0, 0), 20);

        x = Check.told(FOUR);
        x.go(4);
        x.note(1, 1, true);
        x.known(0);
        x.keep();
        x.turn(0, 1);
        CHECK.due("text", Check.tell(x, FOUR + "near 4;"), 11);
        for (int what = 4; what <= 10; what++) {
            CHECK.due("count(" + what + ")", x.count(what), what == 7 ? 8 : 0);
        }
        x.note(1, 1, true);
        CHECK.due("count(9): all are known", x.count(9), 1);
        CHECK.due("back()", x.back(), -1);
        CHECK.due("undo()", x.undo(), -1);
        CHECK.due("house(0, 0)", x.house(0, 0), 10);
        CHECK.due("house(1, 6)", x.house(1, 6), 0);
        CHECK.due("heard(1, 0)", x.heard(1, 0), 0);
    }

    private static void textBehindTexts() {
        CHECK.part("3: nothing of texts ahead is left");
        StaticDial x = new StaticDial();
        String all = "house a 1 1;house b 9 9;turn a 0 9;sound a 0 9;near 9;often 9;fade 100;seed 9;"
            + "law reach 99;law learn 1;law drift 5;";
        for (int i = 0; i < 3; i++) {
            CHECK.due("text", Check.tell(x, all), 11);
        }
        for (int i = 0; i < 3; i++) {
            CHECK.due("text with a fault", Check.tell(x, all + "near"), -1);
            CHECK.due("text", Check.tell(x, "house a 10 1;house b 14 0;house c 14 0;"), 3);
            CHECK.due("count(1)", x.count(1), 0);
            CHECK.due("count(2)", x.count(2), 0);
            CHECK.due("count(3)", x.count(3), 0);
            CHECK.due("law(0, 0, 1)", x.law(0, 0, 1), Long.MIN_VALUE);
            CHECK.due("house(0, 2)", x.house(0, 2), 6);
            CHECK.due("house(0, 3)", x.house(0, 3), 0);
            CHECK.due("busiest(0, 0)", x.busiest(0, 0), 11);
            x.go(5);
            CHECK.due("house(0, 0)", x.house(0, 0), 10);
            CHECK.due("house(0, 1)", x.house(0, 1), 1);
            x.make(1, 1);
            CHECK.due("house(1, 5)", x.house(1, 5), 0);
            x.make(1, 1);
            CHECK.due("house(1, 5)", x.house(1, 5), 5);
            CHECK.due("text", Check.tell(x, "house a 10 9;house b 14 9;fade 50;"), 3);
            x.go(1);
            CHECK.due("seed 0", x.house(0, 1) * 10 + x.house(1, 1), 89);
        }
    }

    private static void names() {
        CHECK.part("5");
        StaticDial x = Check.told("house a 1 1;house zzzzzz 2 2;house ab 3 3;");
        CHECK.due("named a", x.named(1 << 25), 0);
        CHECK.due("named zzzzzz", x.named(0b11010_11010_11010_11010_11010_11010), 1);
        CHECK.due("named ab", x.named(1 << 25 | 2 << 20), 2);
        CHECK.due("named(1)", x.named(1), -1);
        CHECK.due("named(0)", x.named(0), -1);
        CHECK.due("named above 30 bits", x.named(1 << 25 | 1 << 30), -1);
        CHECK.due("named below 0", x.named(1 << 25 | MIN), -1);
        CHECK.due("named b", x.named(2 << 25), -1);
    }

    private static String thrown(StaticDial x, int house, int what) {
        try {
            return "" + x.house(house, what);
        } catch (IndexOutOfBoundsException e) {
            return "index";
        } catch (NoSuchElementException e) {
            return "element";
        }
    }

    private static void dueThrown(StaticDial x, int house, int what, String want) {
        String got = thrown(x, house, what);
        CHECK.due("house(" + house + ", " + what + "): " + got, got.equals(want), true);
    }

    private static void house() {
        CHECK.part("6");
        StaticDial x = Check.told(FOUR);
        dueThrown(x, -1, 0, "index");
        dueThrown(x, 4, 0, "index");
        dueThrown(x, MIN, 7, "index");
        dueThrown(x, 0, 7, "element");
        dueThrown(x, 0, -1, "element");
        dueThrown(x, 3, 0, "60");
        dueThrown(x, 2, 1, "5");
        dueThrown(x, 1, 2, "1");
        dueThrown(x, 1, 3, "5");
        dueThrown(x, 0, 6, "0");
        x.go(4);
        dueThrown(x, 0, 4, "2");
        dueThrown(x, 2, 4, "2");
        dueThrown(x, 1, 5, "5");
        dueThrown(x, 1, 6, "3");
        dueThrown(x, 0, 6, "3");
        dueThrown(x, 3, 6, "0");
    }

    private static void heardAndSound() {
        CHECK.part("7");
        StaticDial x = Check.told(FOUR);
        x.go(4);
        CHECK.due("heard(1, 0)", x.heard(1, 0), 2);
        CHECK.due("heard(0, 1)", x.heard(0, 1), 2);
        CHECK.due("heard(2, 1)", x.heard(2, 1), 2);
        CHECK.due("heard(1, 2)", x.heard(1, 2), 0);
        CHECK.due("heard(1, 1)", x.heard(1, 1), -1);
        CHECK.due("heard(1, 4)", x.heard(1, 4), -1);
        CHECK.due("heard(-1, 1)", x.heard(-1, 1), -1);
        CHECK.part("8");
        x = Check.told(FOUR + "sound d 99 9;");
        CHECK.due("sound(1, 1)", x.sound(1, 1), 4);
        CHECK.due("sound(1, 0)", x.sound(1, 0), 0);
        CHECK.due("sound(3, 99)", x.sound(3, 99), 9);
        CHECK.due("sound(3, 100)", x.sound(3, 100), -1);
        CHECK.due("sound(3, -1)", x.sound(3, -1), -1);
        CHECK.due("sound(4, 0)", x.sound(4, 0), -1);
        CHECK.due("sound(-1, 0)", x.sound(-1, 0), -1);
    }

    private static void law() {
        CHECK.part("9");
        StaticDial x = Check.told("house a 50 9;house b 54 7;sound a 0 2;often 1;"
            + "law reach dial * 1000 + gain * 100 + far * 10 + kind;law learn heard * 100 + knows * 10 + kind + far;"
            + "law drift far + kind + heard + hour * 100 - dial;");
        CHECK.due("law(0, 0, 1)", x.law(0, 0, 1), 50940);
        CHECK.due("law(0, 1, 0)", x.law(0, 1, 0), 54740);
        CHECK.due("law(1, 1, 0)", x.law(1, 1, 0), 4);
        CHECK.due("law(2, 1, 99)", x.law(2, 1, 99), -54);
        CHECK.due("law(2, 1, 1)", x.law(2, 1, 1), -54);
        CHECK.due("law(3, 0, 1)", x.law(3, 0, 1), Long.MIN_VALUE);
        CHECK.due("law(-1, 0, 1)", x.law(-1, 0, 1), Long.MIN_VALUE);
        CHECK.due("law(0, 0, 0)", x.law(0, 0, 0), Long.MIN_VALUE);
        CHECK.due("law(1, 0, 2)", x.law(1, 0, 2), Long.MIN_VALUE);
        CHECK.due("law(2, 2, 0)", x.law(2, 2, 0), Long.MIN_VALUE);
        CHECK.due("law(2, -1, 0)", x.law(2, -1, 0), Long.MIN_VALUE);
        x.go(1);
        CHECK.due("house(0, 0)", x.house(0, 0), 41);
        CHECK.due("house(1, 0)", x.house(1, 0), 45);
        CHECK.due("law(1, 1, 0) behind a sound", x.law(1, 1, 0), 104);
        CHECK.due("law(2, 1, 0) behind an hour", x.law(2, 1, 0), 55);
        x = Check.told("house a 50 9;house b 54 7;law learn knows;often 1;");
        CHECK.due("law(0, 0, 1): not told", x.law(0, 0, 1), Long.MIN_VALUE);
        CHECK.due("law(2, 0, 1): not told", x.law(2, 0, 1), Long.MIN_VALUE);
        x.make(0, 1);
        CHECK.due("law(1, 1, 0)", x.law(1, 1, 0), 1);
    }

    private static void dueLaw(String e, long want) {
        StaticDial x = Check.told("house a 10 2;law drift " + e + ";");
        CHECK.due(e, x.law(2, 0, 0), want);
    }

    private static void lawValues() {
        CHECK.part("values");
        dueLaw("1 + 2 * 3", 7);
        dueLaw("(1 + 2) * 3", 9);
        dueLaw("10 - 4 - 3", 3);
        dueLaw("100 / 5 / 2", 10);
        dueLaw("100 / (5 / 2)", 50);
        dueLaw("7 / 2 * 2", 6);
        dueLaw("(0 - 7) / 2", -3);
        dueLaw("7 / (0 - 2)", -3);
        dueLaw("1 < 2", 1);
        dueLaw("2 < 1", 0);
        dueLaw("2 <= 2", 1);
        dueLaw("3 <= 2", 0);
        dueLaw("2 = 2", 1);
        dueLaw("2 <> 2", 0);
        dueLaw("2 <> 3", 1);
        dueLaw("2 >= 3", 0);
        dueLaw("3 >= 3", 1);
        dueLaw("3 > 3", 0);
        dueLaw("4 > 3", 1);
        dueLaw("1 + 1 = 2", 1);
        dueLaw("not 0", 1);
        dueLaw("not 5", 0);
        dueLaw("not not 5", 1);
        dueLaw("not 1 = 2", 1);
        dueLaw("not 0 and 0", 0);
        dueLaw("not (0 and 0)", 1);
        dueLaw("5 and 7", 1);
        dueLaw("5 and 0", 0);
        dueLaw("0 or 7", 1);
        dueLaw("0 or 0", 0);
        dueLaw("1 or 0 and 0", 1);
        dueLaw("(1 or 0) and 0", 0);
        dueLaw("(1 < 2) + (3 < 4) + (not 0)", 3);
        dueLaw("dial * 10 + gain", 102);
        dueLaw("1 / 0", Long.MIN_VALUE);
        dueLaw("0 and 1 / 0", Long.MIN_VALUE);
        dueLaw("1 or 1 / 0", Long.MIN_VALUE);
        dueLaw("not (1 / (1 - 1))", Long.MIN_VALUE);
        dueLaw("1000 * 1000 * 1000 * 1000", 1000000000000L);
        dueLaw("1000 * 1000 * 1000 * 1000 + 1", Long.MIN_VALUE);
        dueLaw("1000 * 1000 * 1000 * 1000 - 1 + 1", 1000000000000L);
        dueLaw("0 - 1000 * 1000 * 1000 * 1000", -1000000000000L);
        dueLaw("0 - 1000 * 1000 * 1000 * 1000 - 1", Long.MIN_VALUE);
        dueLaw("1000 * 1000 * 1000 * 1001", Long.MIN_VALUE);
        dueLaw("0 * (1000 * 1000 * 1000 * 1001)", Long.MIN_VALUE);
        // what a long can't hold: 4096 to the sixth is 0 in 64 bits
        dueLaw("(4096 * 4096 * 4096) * (4096 * 4096 * 4096) * 1", Long.MIN_VALUE);
        dueLaw("(4096 * 4096 * 4096) * 0", 0);
        dueLaw("(0 - 1000 * 1000) * 1000 * 1000", -1000000000000L);
        dueLaw("not ".repeat(63) + "0", 1);
        dueLaw("not ".repeat(62) + "0", 0);
        dueLaw("((((((((" + "not ".repeat(63) + "0))))))))", 1);
        dueLaw("1 or 1 and 1 < 1 + 1 * (1 or 1 and 1 < 1 + 1 * (1 or 1 and 1 < 1 + 1 * (0 and 0)))", 1);
        dueLaw("0 or 1 and 1 < 1 + 1 * (0 or 1 and 1 < 1 + 1 * (0 or 1 and 1 < 1 + 1 * (1 and 0)))", 0);
    }

    private static void turnMakeValve() {
        CHECK.part("10");
        StaticDial x = Check.told(FOUR);
        CHECK.due("turn(3, 60)", x.turn(3, 60), false);
        CHECK.due("turn(3, 100)", x.turn(3, 100), false);
        CHECK.due("turn(3, -1)", x.turn(3, -1), false);
        CHECK.due("turn(4, 1)", x.turn(4, 1), false);
        CHECK.due("turn(-1, 1)", x.turn(-1, 1), false);
        CHECK.due("count(10)", x.count(10), 0);
        CHECK.due("turn(3, 99)", x.turn(3, 99), true);
        CHECK.due("turn(3, 0)", x.turn(3, 0), true);
        CHECK.due("house(3, 0)", x.house(3, 0), 0);
        CHECK.part("11");
        x = Check.told(FOUR);
        CHECK.due("make(1, 0)", x.make(1, 0), -1);
        CHECK.due("make(1, 10)", x.make(1, 10), -1);
        CHECK.due("make(4, 1)", x.make(4, 1), -1);
        CHECK.due("make(-1, 1)", x.make(-1, 1), -1);
        CHECK.due("count(10)", x.count(10), 0);
        CHECK.due("make(1, 9)", x.make(1, 9), 5);
        CHECK.due("make(3, 1)", x.make(3, 1), 0);
        CHECK.due("house(2, 6)", x.house(2, 6), 9);
        CHECK.due("house(1, 5)", x.house(1, 5), 0);
        CHECK.due("make(1, 1)", x.make(1, 1), 5);
        CHECK.due("house(1, 5)", x.house(1, 5), 5);
        CHECK.due("house(2, 6)", x.house(2, 6), 1);
        CHECK.due("heard(2, 1)", x.heard(2, 1), 2);
        CHECK.part("12");
        x = Check.told("house a 10 3;house b 20 0;fade 100;");
        CHECK.due("valve(0)", x.valve(0), -2);
        CHECK.due("valve(2)", x.valve(2), -1);
        CHECK.due("valve(-1)", x.valve(-1), -1);
        CHECK.due("count(10)", x.count(10), 0);
        x.go(2);
        CHECK.due("house(0, 1)", x.house(0, 1), 1);
        CHECK.due("valve(0)", x.valve(0), 3);
        CHECK.due("valve(0)", x.valve(0), -2);
        CHECK.due("valve(1)", x.valve(1), -2);
        CHECK.due("count(10)", x.count(10), 1);
    }

    private static void go() {
        CHECK.part("13");
        StaticDial x = Check.told(FOUR);
        CHECK.due("go(-1)", x.go(-1), -1);
        CHECK.due("go(100)", x.go(100), -1);
        CHECK.due("go(0)", x.go(0), 0);
        for (int i = 1; i <= 90; i++) {
            CHECK.due("go(99)", x.go(99), 99 * i);
        }
        CHECK.due("go(91)", x.go(91), -1);
        CHECK.due("count(4)", x.count(4), 8910);
        CHECK.due("go(90)", x.go(90), 9000);
        CHECK.due("go(1)", x.go(1), -1);
        CHECK.due("go(0)", x.go(0), 9000);
        CHECK.due("ahead(99, 2, 0)", x.ahead(99, 2, 0), 10);
    }

    private static void hour() {
        CHECK.part("an hour");
        // turns come ahead of sounds, later turns of an hour hold
        StaticDial x = Check.told("house a 10 0;house b 50 0;turn b 0 90;turn b 0 10;sound a 0 1;often 1;");
        x.go(1);
        CHECK.due("heard(1, 0)", x.heard(1, 0), 1);
        CHECK.due("house(1, 0)", x.house(1, 0), 10);
        CHECK.due("house(1, 4)", x.house(1, 4), 1);
        // sounds by their numbers: what a hears of c it hears by what it has heard of b
        x = Check.told("house a 10 0;house b 10 0;house c 20 0;sound c 0 1;sound b 0 2;often 1;"
            + "law reach knows * 10;");
        x.go(1);
        CHECK.due("heard(0, 2)", x.heard(0, 2), 0);
        CHECK.due("house(0, 6)", x.house(0, 6), 2);
        x = Check.told("house a 10 0;house b 10 0;house c 20 0;sound b 0 2;sound c 0 1;often 1;"
            + "law reach knows * 10;");
        x.go(1);
        CHECK.due("heard(0, 2)", x.heard(0, 2), 1);
        CHECK.due("house(0, 6)", x.house(0, 6), 1);
        // heard of reach is without this time, of learn with it
        x = Check.told("house a 10 0;house b 12 0;law reach 2 - heard * 2;law learn heard + (heard = 2);");
        CHECK.due("make(1, 1)", x.make(1, 1), 1);
        CHECK.due("house(0, 4)", x.house(0, 4), 2);
        CHECK.due("make(1, 1)", x.make(1, 1), 0);
        CHECK.part("reach");
        reach("law reach 0 - 5;", 0);
        reach("law reach 500;", 99);
        reach("law reach 1 / 0;", 5);
        reach("law reach 1 / 0;near 4;", 6);
        reach("law reach 7;near 4;", 7);
        reach("near 0;", 2);
        reach("near 20;", 22);
        CHECK.part("learn");
        learn("", 2);
        learn("often 1;", 1);
        learn("often 9;", 9);
        learn("law learn 0 - 4;", 1);
        learn("law learn 4;", 4);
        learn("law learn 1 / 0;often 3;", 3);
        learn("law learn 7000;", 99);
        learn("law learn kind;", 5);
        learn("law learn far + kind;", 6);
        // who knows another one goes on knowing it
        x = Check.told("house a 10 0;house b 10 0;law learn heard * heard;");
        x.make(0, 1);
        CHECK.due("house(1, 4)", x.house(1, 4), 1);
        x.make(0, 1);
        CHECK.due("house(1, 4)", x.house(1, 4), 1);
    }

    /** A house of gain 2 at 0 hears one so far away, but not one that is a step farther. */
    private static void reach(String lines, int far) {
        StaticDial x = Check.told("house a 0 2;house b " + far + " 0;" + lines);
        CHECK.due(lines + " at " + far, x.house(0, 2), 2);
        if (x.turn(1, far + 1)) {
            CHECK.due(lines + " at " + (far + 1), x.house(0, 2), 0);
        }
    }

    /** How many sounds of kind 5 from a step away are needed. */
    private static void learn(String lines, int needed) {
        StaticDial x = Check.told("house a 10 0;house b 11 0;" + lines);
        int n = 0;
        while (x.house(1, 4) == 0 && n < 200) {
            x.make(0, 5);
            n++;
        }
        CHECK.due(lines, n, needed);
    }

    private static void drift() {
        CHECK.part("drift");
        StaticDial x = Check.told("house a 95 1;house b 50 2;law drift 500;");
        x.go(1);
        CHECK.due("house(0, 0)", x.house(0, 0), 99);
        CHECK.due("house(1, 0)", x.house(1, 0), 59);
        x = Check.told("house a 5 1;house b 50 2;law drift 0 - 500;");
        x.go(1);
        CHECK.due("house(0, 0)", x.house(0, 0), 0);
        CHECK.due("house(1, 0)", x.house(1, 0), 41);
        x = Check.told("house a 5 1;house b 50 0;law drift 4 / gain + hour;");
        x.go(1);
        CHECK.due("house(0, 0)", x.house(0, 0), 9);
        CHECK.due("house(1, 0): an error", x.house(1, 0), 50);
        x.go(1);
        CHECK.due("house(0, 0)", x.house(0, 0), 14);
        // dials drift behind the sounds
        x = Check.told("house a 5 0;house b 5 9;sound a 0 1;near 0;law drift gain;");
        x.go(1);
        CHECK.due("heard(1, 0)", x.heard(1, 0), 1);
        CHECK.due("house(1, 0)", x.house(1, 0), 14);
    }

    private static void fading() {
        CHECK.part("fading");
        StaticDial x = Check.told("house a 5 9;house b 5 1;fade 100;");
        x.go(3);
        CHECK.due("house(0, 1)", x.house(0, 1), 6);
        CHECK.due("house(1, 1)", x.house(1, 1), 0);
        x = Check.told("house a 5 9;house b 5 1;fade 0;");
        x.go(99);
        CHECK.due("count(7)", x.count(7), 10);
        // numbers from seed 0 on: 0, 21468, 9988, 22117, 3498, 16927, 16045, 19741 (the old C library's)
        x = Check.told("house a 5 9;house b 5 9;fade 50;seed 0;");
        x.go(1);
        CHECK.due("house(0, 1): 0", x.house(0, 1), 8);
        CHECK.due("house(1, 1): 68", x.house(1, 1), 9);
        x.go(1);
        CHECK.due("house(0, 1): 88", x.house(0, 1), 8);
        CHECK.due("house(1, 1): 17", x.house(1, 1), 8);
        x.go(1);
        CHECK.due("house(0, 1): 98", x.house(0, 1), 8);
        CHECK.due("house(1, 1): 27", x.house(1, 1), 7);
        x.go(1);
        CHECK.due("house(0, 1): 45", x.house(0, 1), 7);
        CHECK.due("house(1, 1): 41", x.house(1, 1), 6);
        x = Check.told("house a 5 9;house b 5 9;fade 1;seed 0;");
        x.go(1);
        CHECK.due("fade 1: 0, 68", x.house(0, 1) * 10 + x.house(1, 1), 89);
        x = Check.told("house a 5 9;house b 5 9;fade 99;seed 0;");
        x.go(1);
        CHECK.due("fade 99: 0, 68", x.house(0, 1) * 10 + x.house(1, 1), 88);
        // seed 1: 16838; a number that is fade itself isn't below it
        x = Check.told("house a 5 9;fade 38;seed 1;");
        x.go(1);
        CHECK.due("house(0, 1)", x.house(0, 1), 9);
        x = Check.told("house a 5 9;fade 39;seed 1;");
        x.go(1);
        CHECK.due("house(0, 1)", x.house(0, 1), 8);
        // a house without strength takes its number, too: here 0, then 21468
        x = Check.told("house a 5 0;house b 5 9;fade 50;seed 0;");
        x.go(1);
        CHECK.due("house(1, 1)", x.house(1, 1), 9);
    }

    private static void ahead() {
        CHECK.part("14");
        StaticDial x = Check.told(FOUR);
        CHECK.due("ahead(3, 0, 9)", x.ahead(3, 0, 9), 1);
        CHECK.due("ahead(4, 0, -5)", x.ahead(4, 0, -5), 3);
        CHECK.due("ahead(99, 1, 9)", x.ahead(99, 1, 9), 6);
        CHECK.due("ahead(0, 1, 9)", x.ahead(0, 1, 9), 0);
        CHECK.due("ahead(2, 2, 3)", x.ahead(2, 2, 3), 60);
        CHECK.due("ahead(3, 2, 3)", x.ahead(3, 2, 3), 24);
        CHECK.due("ahead(3, 3, 2)", x.ahead(3, 3, 2), 5);
        CHECK.due("ahead(3, 2, 4)", x.ahead(3, 2, 4), -1);
        CHECK.due("ahead(3, 3, -1)", x.ahead(3, 3, -1), -1);
        CHECK.due("ahead(3, 4, 0)", x.ahead(3, 4, 0), -1);
        CHECK.due("ahead(3, -1, 0)", x.ahead(3, -1, 0), -1);
        CHECK.due("ahead(-1, 0, 0)", x.ahead(-1, 0, 0), -1);
        CHECK.due("ahead(100, 0, 0)", x.ahead(100, 0, 0), -1);
        CHECK.due("nothing has come", x.count(4) + x.count(5) + x.count(6), 0);
        x.go(3);
        CHECK.due("ahead(1, 0, 0)", x.ahead(1, 0, 0), 2);
        CHECK.due("ahead(1, 1, 0)", x.ahead(1, 1, 0), 2);
        CHECK.part("as it goes");
        x = Check.told("house a 5 9;house b 5 3;fade 50;seed 0;");
        CHECK.due("ahead(4, 3, 0)", x.ahead(4, 3, 0), 5);
        CHECK.due("ahead(4, 3, 1)", x.ahead(4, 3, 1), 0);
        x.go(1);
        CHECK.due("no number is used up", x.house(0, 1) * 10 + x.house(1, 1), 83);
        x = Check.told("house a 5 9;fade 49;");
        CHECK.due("ahead(4, 3, 0)", x.ahead(4, 3, 0), 9);
    }

    private static void first() {
        CHECK.part("15");
        StaticDial x = Check.told(FOUR);
        CHECK.due("first(0)", x.first(0), 4);
        CHECK.due("first(1)", x.first(1), 1);
        CHECK.due("first(2)", x.first(2), -1);
        CHECK.due("first(-1)", x.first(-1), -1);
        x.go(4);
        CHECK.due("first(0)", x.first(0), 0);
        // of two pairs in one hour the first by numbers, though the other one's sounds are told ahead
        x = Check.told("house a 1 0;house b 40 0;house c 1 0;house d 40 0;often 1;"
            + "sound b 7 1;sound d 7 1;sound a 7 1;sound c 7 1;");
        CHECK.due("first(0)", x.first(0), 8);
        CHECK.due("first(1)", x.first(1), 2);
        x = Check.told("house a 1 0;house b 40 0;house c 80 0;house d 40 0;often 1;sound b 98 1;sound d 98 1;");
        CHECK.due("first(0)", x.first(0), 99);
        CHECK.due("first(1)", x.first(1), 13);
        x = Check.told("house a 1 0;house b 40 0;house c 80 0;house d 40 0;often 1;sound b 99 1;sound d 99 1;");
        CHECK.due("first(0)", x.first(0), -2);
        CHECK.due("first(1)", x.first(1), -2);
        x.go(1);
        CHECK.due("first(0)", x.first(0), 99);
        // one who knows another one that doesn't know it isn't enough
        x = Check.told("house a 1 0;house b 1 0;often 1;sound b 0 1;");
        CHECK.due("first(0)", x.first(0), -2);
    }

    private static void secret() {
        CHECK.part("16");
        StaticDial x = Check.told(FOUR);
        CHECK.due("secret(0, 1, 0)", x.secret(0, 1, 0), 10);
        CHECK.due("secret(0, 1, 1)", x.secret(0, 1, 1), 11);
        CHECK.due("secret(0, 1, 2)", x.secret(0, 1, 2), 2);
        // by the first one's, then the second one's: the same from the other side
        CHECK.due("secret(1, 0, 0)", x.secret(1, 0, 0), 11);
        CHECK.due("secret(1, 0, 1)", x.secret(1, 0, 1), 10);
        CHECK.due("secret(0, 3, 0)", x.secret(0, 3, 0), 29);
        CHECK.due("secret(3, 0, 0)", x.secret(3, 0, 0), 32);
        CHECK.due("secret(3, 0, 1)", x.secret(3, 0, 1), 29);
        CHECK.due("secret(0, 1, 3)", x.secret(0, 1, 3), -1);
        CHECK.due("secret(0, 1, -1)", x.secret(0, 1, -1), -1);
        CHECK.due("secret(0, 0, 0)", x.secret(0, 0, 0), -1);
        CHECK.due("secret(0, 4, 0)", x.secret(0, 4, 0), -1);
        CHECK.due("secret(-1, 0, 0)", x.secret(-1, 0, 0), -1);
        CHECK.due("house(0, 0)", x.house(0, 0), 10);
        x = Check.told("house a 1 0;house b 3 0;");
        CHECK.due("secret(0, 1, 2)", x.secret(0, 1, 2), 0);
        CHECK.due("secret(0, 1, 1)", x.secret(0, 1, 1), 3);
        x = Check.told("house a 1 0;house b 3 0;house c 4 0;law reach 99;");
        CHECK.due("secret(0, 1, 0)", x.secret(0, 1, 0), -2);
        CHECK.due("secret(0, 1, 2)", x.secret(0, 1, 2), -2);
    }

    private static void spread() {
        CHECK.part("17");
        StaticDial x = Check.told(FOUR);
        int[] want = {0, 11, 22, 55, 19};
        for (int what = 0; what <= 4; what++) {
            CHECK.due("spread(" + what + ")", x.spread(what), want[what]);
        }
        CHECK.due("spread(5)", x.spread(5), -1);
        CHECK.due("spread(-1)", x.spread(-1), -1);
        CHECK.due("house(0, 0)", x.house(0, 0), 10);
        // the fifth and sixth are not looked at
        x = Check.told("house a 0 0;house b 11 0;house c 22 0;house d 33 0;house e 0 9;house f 12 9;");
        CHECK.due("spread(4)", x.spread(4), 0);
        CHECK.due("spread(3)", x.spread(3), 33);
        x = Check.told("house a 5 0;house b 50 0;");
        CHECK.due("spread(0)", x.spread(0), 0);
        CHECK.due("spread(1)", x.spread(1), 55);
        CHECK.due("spread(2)", x.spread(2), -2);
        CHECK.due("spread(3)", x.spread(3), -2);
        CHECK.due("spread(4)", x.spread(4), 10);
        // of two that are alike the first by houses
        x = Check.told("house a 11 0;house b 11 0;");
        CHECK.due("spread(0)", x.spread(0), 0);
        CHECK.due("spread(1)", x.spread(1), 11);
        x = Check.told("house a 11 0;house b 11 0;law reach 99;");
        CHECK.due("spread(0)", x.spread(0), -2);
        CHECK.due("spread(2)", x.spread(2), -2);
        CHECK.due("spread(4)", x.spread(4), -2);
        // it is enough that one hears the other
        x = Check.told("house a 11 9;house b 22 0;");
        CHECK.due("spread(4): 12 is its reach", x.spread(4), 11);
    }

    private static void notes() {
        CHECK.part("18, 33");
        StaticDial x = Check.told(FOUR);
        CHECK.due("note(100, 0, true)", x.note(100, 0, true), -1);
        CHECK.due("note(-1, 0, true)", x.note(-1, 0, true), -1);
        CHECK.due("note(0, 10, true)", x.note(0, 10, true), -1);
        CHECK.due("note(0, -1, true)", x.note(0, -1, true), -1);
        CHECK.due("whose()", x.whose(), 15);
        CHECK.due("note(3, 3, true)", x.note(3, 3, true), 0);
        CHECK.due("whose()", x.whose(), 6);
        CHECK.due("note(1, 0, false)", x.note(1, 0, false), 1);
        CHECK.due("whose()", x.whose(), 2);
        CHECK.due("note(99, 9, false)", x.note(99, 9, false), 2);
        CHECK.due("whose()", x.whose(), 2);
        CHECK.due("note(99, 0, true)", x.note(99, 0, true), 3);
        CHECK.due("whose()", x.whose(), 2);
        CHECK.due("note(1, 3, true)", x.note(1, 3, true), 4);
        CHECK.due("whose()", x.whose(), 0);
        CHECK.due("ask(0)", x.ask(0), 0);
        CHECK.due("ask(1)", x.ask(1), 0);
        // sights don't tell whose it is, sounds by call aren't told
        x = Check.told(FOUR);
        x.see(4, 0, 1, false);
        x.make(0, 9);
        x.note(0, 9, true);
        CHECK.due("whose()", x.whose(), 0);
        x.strike(1);
        CHECK.due("whose()", x.whose(), 15);
        CHECK.part("19");
        x = Check.told(FOUR);
        CHECK.due("ask(0)", x.ask(0), 3);
        CHECK.due("ask(1)", x.ask(1), 2);
        CHECK.due("ask(2)", x.ask(2), -1);
        CHECK.due("ask(-1)", x.ask(-1), -1);
        x.note(3, 3, false);
        CHECK.due("ask(0)", x.ask(0), 0);
        CHECK.due("ask(1)", x.ask(1), 1);
        x = Check.told("house a 1 1;house b 1 1;sound a 23 1;sound b 23 2;");
        CHECK.due("ask(0)", x.ask(0), 23);
        CHECK.due("ask(1)", x.ask(1), 1);
        x = Check.told("house a 1 1;house b 1 1;sound a 0 9;sound b 0 9;");
        CHECK.due("ask(1): both make a 9", x.ask(1), 2);
        x = Check.told("house a 1 1;house b 1 1;sound a 24 1;sound b 24 2;");
        CHECK.due("ask(0)", x.ask(0), 0);
        CHECK.due("ask(1)", x.ask(1), 2);
    }

    private static void strikes() {
        CHECK.part("34");
        StaticDial x = Check.told(FOUR);
        CHECK.due("see(0, 0, 1, true)", x.see(0, 0, 1, true), -1);
        CHECK.due("see(61, 0, 1, true)", x.see(61, 0, 1, true), -1);
        CHECK.due("see(1, 1, 1, true)", x.see(1, 1, 1, true), -1);
        CHECK.due("see(1, 4, 1, true)", x.see(1, 4, 1, true), -1);
        CHECK.due("see(1, 1, -1, true)", x.see(1, 1, -1, true), -1);
        CHECK.due("see(60, 0, 1, true)", x.see(60, 0, 1, true), 0);
        CHECK.due("see(1, 0, 1, true)", x.see(1, 0, 1, true), 1);
        CHECK.part("35");
        x = Check.told(FOUR);
        CHECK.due("strike(0)", x.strike(0), -1);
        x.note(3, 3, true);
        CHECK.due("strike(1)", x.strike(1), -1);
        CHECK.due("strike(-1)", x.strike(-1), -1);
        CHECK.due("strike(0)", x.strike(0), 1);
        CHECK.due("whose()", x.whose(), 15);
        CHECK.due("strike(1)", x.strike(1), 2);
        CHECK.due("whose(): the strike is struck", x.whose(), 6);
        CHECK.due("strike(2)", x.strike(2), 3);
        CHECK.due("whose(): the strike of the strike is struck", x.whose(), 15);
        CHECK.due("strike(0)", x.strike(0), 4);
        CHECK.due("strike(3)", x.strike(3), 5);
        CHECK.due("whose(): struck twice", x.whose(), 15);
        CHECK.due("strike(4)", x.strike(4), 6);
        CHECK.due("whose()", x.whose(), 6);
        CHECK.part("36");
        int[] known = {15, 6, 15, 6, 15, 15, 15, 6};
        for (int n = 0; n <= 7; n++) {
            CHECK.due("known(" + n + ")", x.known(n), true);
            CHECK.due("whose() by " + n, x.whose(), known[n]);
            CHECK.due("count(9)", x.count(9), n);
        }
        CHECK.due("known(8)", x.known(8), false);
        CHECK.due("known(-2)", x.known(-2), false);
        CHECK.due("count(9)", x.count(9), 7);
        x.strike(0);
        CHECK.due("those to come don't count", x.whose(), 6);
        CHECK.due("known(-1)", x.known(-1), true);
        CHECK.due("whose()", x.whose(), 15);
        CHECK.due("count(9)", x.count(9), 8);
        CHECK.part("24 in all");
        for (int i = 8; i < 24; i++) {
            CHECK.due("note", i % 3 == 0 ? x.note(0, 0, true) : i % 3 == 1 ? x.see(1, 0, 1, true) : x.strike(i - 1), i);
        }
        CHECK.due("note", x.note(0, 0, true), -1);
        CHECK.due("see", x.see(1, 0, 1, true), -1);
        CHECK.due("strike", x.strike(1), -1);
        CHECK.due("count(8)", x.count(8), 24);
    }

    private static void nears() {
        CHECK.part("37");
        StaticDial x = Check.told(FOUR);
        CHECK.due("nears()", x.nears(), 1023);
        x.see(4, 0, 1, true);
        CHECK.due("nears()", x.nears(), 1020);
        x.see(3, 0, 1, false);
        CHECK.due("nears()", x.nears(), 1020);
        x.see(60, 1, 2, false);
        CHECK.due("nears()", x.nears(), 1020);
        // at 24 d hears c, which makes one sound only, at 4 at least
        x.see(4, 3, 2, false);
        CHECK.due("nears()", x.nears(), 1020);
        x.see(4, 2, 0, false);
        CHECK.due("nears(): c hears a by 5 at least", x.nears(), 28);
        // nothing done by call counts, and near is as told afterwards
        x.turn(0, 90);
        x.go(5);
        CHECK.due("nears()", x.nears(), 28);
        CHECK.due("house(1, 3)", x.house(1, 3), 4);
        x.known(0);
        CHECK.due("nears()", x.nears(), 1023);
        x = Check.told("house a 1 0;house b 4 1;often 1;sound a 1 1;fade 50;");
        x.see(2, 1, 0, true);
        CHECK.due("nears(): the valve has faded", x.nears(), 1023 - 7);
        // what was tried or drawn ahead leaves no trace
        x = Check.told("house a 1 0;house b 4 3;often 1;sound a 1 1;law drift hour = 0 and gain;fade 20;seed 1;");
        x.see(2, 1, 0, true);
        CHECK.due("nears(): b is at 5", x.nears(), 1023 - 1);
        x.tried(1, 0, 5);
        CHECK.due("nears()", x.nears(), 1023 - 1);
        x.tried(2, 0, 5);
        CHECK.due("nears()", x.nears(), 1023 - 1);
        x.chance(0, 9, 0, 1);
        CHECK.due("nears()", x.nears(), 1023 - 1);
        x.go(9);
        CHECK.due("nears()", x.nears(), 1023 - 1);
        x = Check.told("house a 1 0;house b 4 1;often 1;sound a 1 1;turn b 0 50;");
        x.see(2, 1, 0, true);
        CHECK.due("nears()", x.nears(), 0);
        x.tried(4, 0, 5);
        CHECK.due("nears()", x.nears(), 0);
        x = Check.told("house a 1 0;house b 4 1;often 1;sound a 1 1;law reach 3;");
        x.see(2, 1, 0, true);
        CHECK.due("nears(): a law of reach holds", x.nears(), 1023);
    }

    private static void reached() {
        CHECK.part("20");
        StaticDial x = Check.told(FOUR);
        CHECK.due("passed(0, 0)", x.passed(0, 0), 1);
        CHECK.due("passed(0, 1)", x.passed(0, 1), 3);
        CHECK.due("passed(0, 2)", x.passed(0, 2), 7);
        CHECK.due("passed(0, 6)", x.passed(0, 6), 7);
        CHECK.due("passed(2, 6)", x.passed(2, 6), 4);
        CHECK.due("passed(0, 7)", x.passed(0, 7), -1);
        CHECK.due("passed(0, -1)", x.passed(0, -1), -1);
        CHECK.due("passed(4, 1)", x.passed(4, 1), -1);
        CHECK.due("passed(-1, 1)", x.passed(-1, 1), -1);
        CHECK.part("29");
        CHECK.due("gossip(2, 6)", x.gossip(2, 6), 4);
        x.go(4);
        CHECK.due("gossip(2, 0)", x.gossip(2, 0), 4);
        CHECK.due("gossip(2, 1)", x.gossip(2, 1), 6);
        CHECK.due("gossip(2, 2)", x.gossip(2, 2), 7);
        CHECK.due("gossip(0, 6)", x.gossip(0, 6), 3);
        CHECK.due("gossip(0, 7)", x.gossip(0, 7), -1);
        CHECK.due("gossip(0, -1)", x.gossip(0, -1), -1);
        CHECK.due("gossip(4, 0)", x.gossip(4, 0), -1);
    }

    private static void before() {
        CHECK.part("21");
        StaticDial x = Check.told(FOUR);
        CHECK.due("before(0, 1, 0)", x.before(0, 1, 0), 1);
        CHECK.due("before(0, 1, 1)", x.before(0, 1, 1), 1);
        CHECK.due("before(1, 0, 0)", x.before(1, 0, 0), -1);
        CHECK.due("before(0, 3, 0)", x.before(0, 3, 0), 0);
        CHECK.due("before(0, 3, 1)", x.before(0, 3, 1), 0);
        CHECK.due("before(0, 0, 0)", x.before(0, 0, 0), MIN);
        CHECK.due("before(0, 4, 0)", x.before(0, 4, 0), MIN);
        CHECK.due("before(-1, 0, 0)", x.before(-1, 0, 0), MIN);
        CHECK.due("before(0, 1, 2)", x.before(0, 1, 2), MIN);
        CHECK.due("before(0, 1, -1)", x.before(0, 1, -1), MIN);
        // -3 and 3 alike: the lesser one; a greater number of hours goes first
        x = Check.told("house a 1 1;house b 1 1;sound a 20 1;sound b 17 1;sound b 23 1;");
        CHECK.due("before(0, 1, 0)", x.before(0, 1, 0), -3);
        x = Check.told("house a 1 1;house b 1 1;sound a 20 1;sound a 30 2;sound b 20 1;sound b 29 1;sound b 39 2;");
        CHECK.due("before(0, 1, 0)", x.before(0, 1, 0), 9);
        CHECK.due("before(0, 1, 1)", x.before(0, 1, 1), 2);
        CHECK.due("before(1, 0, 0)", x.before(1, 0, 0), -9);
        x = Check.told("house a 1 1;house b 1 1;sound a 20 1;sound a 30 2;sound b 20 1;sound b 30 1;sound b 40 2;");
        CHECK.due("before(0, 1, 1): 10 is too late", x.before(0, 1, 1), 1);
        CHECK.due("before(0, 1, 0)", x.before(0, 1, 0), 0);
    }

    private static void warnAndAlone() {
        CHECK.part("22");
        StaticDial x = Check.told(FOUR);
        CHECK.due("warn()", x.warn(), 10);
        x.turn(3, 12);
        CHECK.due("warn()", x.warn(), 2);
        x = Check.told("house a 1 0;house b 1 0;house c 50 0;house d 50 0;");
        CHECK.due("warn(): of several the least", x.warn(), 5);
        x = Check.told("house a 1 0;house b 20 0;house c 50 0;house d 90 0;");
        CHECK.due("warn(): all", x.warn(), 15);
        x = Check.told("house a 1 0;");
        CHECK.due("warn(): one", x.warn(), 1);
        // the others must hear those who warn, not be heard by them
        x = Check.told("house a 10 9;house b 20 0;house c 0 0;");
        CHECK.due("warn()", x.warn(), 6);
        CHECK.part("26");
        CHECK.due("alone()", x.alone(), 0);
        x = Check.told(FOUR);
        CHECK.due("alone()", x.alone(), 8);
        x.turn(1, 90);
        CHECK.due("alone()", x.alone(), 15);
    }

    private static void busiest() {
        CHECK.part("23");
        StaticDial x = Check.told(FOUR);
        CHECK.due("busiest(0, 0)", x.busiest(0, 0), 10);
        CHECK.due("busiest(0, 1)", x.busiest(0, 1), 2);
        CHECK.due("busiest(9, 0)", x.busiest(9, 0), 8);
        CHECK.due("busiest(9, 1)", x.busiest(9, 1), 3);
        CHECK.due("busiest(10, 1)", x.busiest(10, 1), -1);
        CHECK.due("busiest(-1, 1)", x.busiest(-1, 1), -1);
        CHECK.due("busiest(0, 2)", x.busiest(0, 2), -1);
        CHECK.due("busiest(0, -1)", x.busiest(0, -1), -1);
        x = Check.told("house a 99 0;near 0;law reach 50;");
        CHECK.due("busiest(0, 0): near, not the law", x.busiest(0, 0), 99);
        CHECK.due("busiest(1, 0)", x.busiest(1, 0), 98);
    }

    private static void game() {
        CHECK.part("24");
        StaticDial x = Check.told(FOUR);
        CHECK.due("rests(0)", x.rests(0), 4);
        CHECK.due("rests(3)", x.rests(3), 0);
        CHECK.due("rests(4)", x.rests(4), -1);
        CHECK.due("rests(-1)", x.rests(-1), -1);
        CHECK.part("25");
        int[] want = {1, 3, 21, 23, -2};
        for (int k = 0; k < want.length; k++) {
            CHECK.due("rest(0, " + k + ")", x.rest(0, k), want[k]);
        }
        CHECK.due("rest(0, max)", x.rest(0, MAX), -2);
        CHECK.due("rest(0, -1)", x.rest(0, -1), -1);
        CHECK.due("rest(4, 0)", x.rest(4, 0), -1);
        CHECK.due("rest(3, 0)", x.rest(3, 0), -2);
        // from hour 2 on a's sound is at choice 0; a sound by call isn't told
        x.go(2);
        x.make(0, 1);
        CHECK.due("rests(0)", x.rests(0), 3);
        CHECK.due("rest(0, 0)", x.rest(0, 0), 1);
        CHECK.due("rest(0, 1)", x.rest(0, 1), 2);
        CHECK.due("rest(0, 2)", x.rest(0, 2), 3);
        x.go(1);
        CHECK.due("rests(0)", x.rests(0), 0);
        // sounds at all four: the house always loses 6, he always has 2 more
        x = Check.told("house a 1 1;sound a 0 1;sound a 1 1;sound a 2 1;sound a 3 1;");
        CHECK.due("rests(0)", x.rests(0), 0);
        // sounds at three: he is best off there, it at the fourth
        x = Check.told("house a 1 1;sound a 0 1;sound a 1 1;sound a 3 1;");
        CHECK.due("rests(0)", x.rests(0), 3);
        CHECK.due("rest(0, 2)", x.rest(0, 2), 32);
    }

    private static void code() {
        CHECK.part("27");
        StaticDial x = Check.told(FOUR);
        CHECK.due("code(0, 1)", x.code(0, 1), 2);
        CHECK.due("code(1, 0): c would know, too", x.code(1, 0), -2);
        CHECK.due("code(2, 0)", x.code(2, 0), -2);
        CHECK.due("code(0, 0)", x.code(0, 0), -1);
        CHECK.due("code(0, 4)", x.code(0, 4), -1);
        CHECK.due("code(-1, 0)", x.code(-1, 0), -1);
        CHECK.due("heard(1, 0)", x.heard(1, 0), 0);
        x.make(0, 2);
        CHECK.due("code(0, 1)", x.code(0, 1), 1);
        x.make(0, 2);
        CHECK.due("code(0, 1)", x.code(0, 1), 0);
        // c knows b already, so it may go on hearing it
        x.turn(0, 90);
        x.make(1, 1);
        x.make(1, 1);
        CHECK.due("house(1, 5)", x.house(1, 5), 4);
        x.turn(0, 10);
        CHECK.due("code(1, 0)", x.code(1, 0), 2);
        x = Check.told("house a 1 1;house b 1 1;law learn 20;");
        CHECK.due("code(0, 1)", x.code(0, 1), 20);
        x = Check.told("house a 1 1;house b 1 1;law learn 21;");
        CHECK.due("code(0, 1)", x.code(0, 1), -2);
        x = Check.told("house a 1 1;house b 1 1;law learn kind * 3;");
        CHECK.due("code(0, 1)", x.code(0, 1), 3);
    }

    private static void hideAndLure() {
        CHECK.part("28");
        StaticDial x = Check.told(FOUR);
        CHECK.due("hide(0)", x.hide(0), 7);
        CHECK.due("hide(3)", x.hide(3), 60);
        CHECK.due("hide(4)", x.hide(4), -1);
        CHECK.due("hide(-1)", x.hide(-1), -1);
        CHECK.due("house(0, 0)", x.house(0, 0), 10);
        x = Check.told("house a 50 0;house b 50 0;");
        CHECK.due("hide(0): of two the lesser one", x.hide(0), 46);
        x = Check.told("house a 2 0;house b 0 0;");
        CHECK.due("hide(0)", x.hide(0), 4);
        x = Check.told("house a 50 0;house b 50 0;law reach 99;");
        CHECK.due("hide(0)", x.hide(0), -2);
        x = Check.told("house a 50 0;house b 50 0;law reach 98;");
        CHECK.due("hide(0)", x.hide(0), -2);
        x = Check.told("house a 50 0;house b 0 0;law reach 98;");
        CHECK.due("hide(0)", x.hide(0), 99);
        CHECK.part("32");
        x = Check.told(FOUR);
        CHECK.due("lure(1, 2)", x.lure(1, 2), 15);
        CHECK.due("lure(0, 2)", x.lure(0, 2), 19);
        CHECK.due("lure(3, 2)", x.lure(3, 2), 28);
        CHECK.due("lure(0, 0)", x.lure(0, 0), -1);
        CHECK.due("lure(0, 4)", x.lure(0, 4), -1);
        CHECK.due("lure(-1, 0)", x.lure(-1, 0), -1);
        CHECK.due("house(3, 0)", x.house(3, 0), 60);
        x = Check.told("house a 50 0;house b 50 2;house c 50 0;");
        CHECK.due("lure(0, 1): fewest first, then the lesser one", x.lure(0, 1), 46);
        CHECK.due("lure(0, 2): b hears it wherever c does", x.lure(0, 2), 50);
        x = Check.told("house a 50 0;house b 50 2;law reach far - 1;");
        CHECK.due("lure(0, 1): only at 0 apart", x.lure(0, 1), 50);
        x = Check.told("house a 50 0;house b 50 2;law reach far - (far > 0) + 0 * dial;");
        x.turn(0, 60);
        CHECK.due("lure(0, 1)", x.lure(0, 1), 50);
        x = Check.told("house a 50 0;house b 50 2;law reach (far > 60) * 99;");
        CHECK.due("lure(0, 1)", x.lure(0, 1), 50);
        x = Check.told("house a 50 0;house b 50 2;near 0;law reach far = 0 and 5 / (1 - 1);");
        CHECK.due("lure(0, 1): an error leaves near and gain", x.lure(0, 1), 50);
    }

    private static void loudest() {
        CHECK.part("30");
        StaticDial x = Check.told(FOUR);
        CHECK.due("loudest()", x.loudest(), 0);
        x = Check.told(FOUR + "sound c 5 1;sound c 6 1;");
        CHECK.due("loudest()", x.loudest(), 2);
        x = Check.told("house a 1 1;");
        CHECK.due("loudest()", x.loudest(), -2);
        x.make(0, 1);
        CHECK.due("loudest()", x.loudest(), -2);
    }

    private static void nextHeard() {
        CHECK.part("31");
        StaticDial x = Check.told(FOUR + "sound c 98 1;sound d 99 1;turn d 90 12;");
        CHECK.due("nextHeard(1, 0)", x.nextHeard(1, 0), 1);
        CHECK.due("nextHeard(0, 1)", x.nextHeard(0, 1), 2);
        CHECK.due("nextHeard(0, 2)", x.nextHeard(0, 2), -2);
        CHECK.due("nextHeard(0, 3): at the hundredth", x.nextHeard(0, 3), -2);
        CHECK.due("nextHeard(0, 0)", x.nextHeard(0, 0), -1);
        CHECK.due("nextHeard(0, 4)", x.nextHeard(0, 4), -1);
        CHECK.due("nextHeard(-1, 0)", x.nextHeard(-1, 0), -1);
        x.go(1);
        CHECK.due("nextHeard(1, 0)", x.nextHeard(1, 0), 2);
        CHECK.due("nextHeard(0, 3)", x.nextHeard(0, 3), 99);
        CHECK.due("heard(1, 0)", x.heard(1, 0), 1);
        x.go(4);
        CHECK.due("nextHeard(1, 0)", x.nextHeard(1, 0), -2);
    }

    private static void chance() {
        CHECK.part("38");
        String text = "house a 10 1;house b 14 0;often 1;sound b 1 1;fade 50;";
        StaticDial x = Check.told(text);
        CHECK.due("chance(-1, 2, 0, 1)", x.chance(-1, 2, 0, 1), -1);
        CHECK.due("chance(0, 0, 0, 1)", x.chance(0, 0, 0, 1), -1);
        CHECK.due("chance(0, 100, 0, 1)", x.chance(0, 100, 0, 1), -1);
        CHECK.due("chance(0, 2, 0, 0)", x.chance(0, 2, 0, 0), -1);
        CHECK.due("chance(0, 2, 2, 0)", x.chance(0, 2, 2, 0), -1);
        CHECK.due("chance(0, 2, 0, -1)", x.chance(0, 2, 0, -1), -1);
        CHECK.due("chance(0, 1, 0, 1)", x.chance(0, 1, 0, 1), 0);
        // a hears b if the first of each four numbers doesn't fade it: one behind another
        for (int seed : new int[] {0, 1, 77, MAX}) {
            CHECK.due("chance(" + seed + ", 2, 0, 1)", x.chance(seed, 2, 0, 1), everyFourthNotBelow50(seed));
        }
        CHECK.due("count(4)", x.count(4), 0);
        x.go(1);
        CHECK.due("no number is used up", x.house(0, 1), 0);
        x = Check.told("house a 10 1;house b 14 0;often 1;sound b 1 1;fade 100;");
        CHECK.due("chance(5, 99, 0, 1)", x.chance(5, 99, 0, 1), 0);
        x = Check.told("house a 10 1;house b 14 0;often 1;sound b 1 1;");
        CHECK.due("chance(5, 99, 0, 1)", x.chance(5, 99, 0, 1), 10);
        CHECK.due("chance(5, 99, 1, 0)", x.chance(5, 99, 1, 0), 0);
    }

    private static int everyFourthNotBelow50(int seed) {
        long number = seed;
        int times = 0;
        for (int i = 0; i < 40; i++) {
            number = (number * 1103515245L + 12345L) % 2147483648L;
            if (i % 4 == 0 && number / 65536 % 100 >= 50) {
                times++;
            }
        }
        return times;
    }

    private static void tried() {
        CHECK.part("39");
        StaticDial x = Check.told(FOUR);
        CHECK.due("tried(0, 0, 4)", x.tried(0, 0, 4), 3);
        CHECK.due("tried(1, 0, 4)", x.tried(1, 0, 4), 3);
        CHECK.due("tried(2, 0, 4)", x.tried(2, 0, 4), 2);
        CHECK.due("tried(2, 1, 4)", x.tried(2, 1, 4), 1);
        CHECK.due("tried(2, 3, 4)", x.tried(2, 3, 4), 3);
        CHECK.due("tried(3, 0, 4)", x.tried(3, 0, 4), 4);
        CHECK.due("tried(4, 0, 4)", x.tried(4, 0, 4), 3);
        CHECK.due("tried(0, 0, 0)", x.tried(0, 0, 0), 0);
        CHECK.due("tried(0, 0, 99)", x.tried(0, 0, 99), 3);
        CHECK.due("tried(0, 0, 100)", x.tried(0, 0, 100), -1);
        CHECK.due("tried(0, 0, -1)", x.tried(0, 0, -1), -1);
        CHECK.due("tried(5, 0, 4)", x.tried(5, 0, 4), -1);
        CHECK.due("tried(-1, 0, 4)", x.tried(-1, 0, 4), -1);
        CHECK.due("tried(2, 4, 4)", x.tried(2, 4, 4), -1);
        CHECK.due("tried(2, -1, 4)", x.tried(2, -1, 4), -1);
        for (int what : new int[] {0, 1, 3, 4}) {
            CHECK.due("tried(" + what + ", 1, 4)", x.tried(what, 1, 4), -1);
        }
        x.go(3);
        CHECK.due("tried(0, 0, 1)", x.tried(0, 0, 1), 2);
        CHECK.due("house(2, 1)", x.house(2, 1), 5);
        // by fading, by drifting and by turning b can't hear a at hour 1
        x = Check.told("house a 10 0;house b 14 1;often 1;sound a 1 1;fade 50;");
        dueTried(x, 0, 1, 0, 0, 1, 0);
        x = Check.told("house a 10 0;house b 13 0;often 1;sound a 1 1;law drift dial > 12;");
        dueTried(x, 0, 0, 1, 0, 1, 0);
        x = Check.told("house a 10 0;house b 13 0;often 1;sound a 1 1;turn b 0 50;");
        dueTried(x, 0, 0, 0, 0, 0, 1);
        // as it goes they fade from 9 on, too: 3 and 7 are too little for 11
        x = Check.told("house a 10 0;house b 21 0;often 1;sound a 1 1;fade 50;");
        dueTried(x, 0, 0, 0, 0, 1, 0);
        x = Check.told("house a 10 0;house b 21 0;often 1;sound a 2 1;fade 50;");
        dueTried(x, 0, 0, 0, 0, 0, 0);
    }

    private static void dueTried(StaticDial x, int ahead, int unfaded, int undrifted, int silent, int strong, int unturned) {
        CHECK.due("ahead(3, 0, 0)", x.ahead(3, 0, 0), ahead);
        CHECK.due("tried(0, 0, 3)", x.tried(0, 0, 3), unfaded);
        CHECK.due("tried(1, 0, 3)", x.tried(1, 0, 3), undrifted);
        CHECK.due("tried(2, 0, 3)", x.tried(2, 0, 3), silent);
        CHECK.due("tried(3, 0, 3)", x.tried(3, 0, 3), strong);
        CHECK.due("tried(4, 0, 3)", x.tried(4, 0, 3), unturned);
        CHECK.due("ahead(3, 0, 0) again", x.ahead(3, 0, 0), ahead);
    }

    private static void undo() {
        CHECK.part("40");
        StaticDial x = Check.told(FOUR + "fade 100;");
        CHECK.due("undo()", x.undo(), -1);
        x.go(1);
        x.turn(3, 50);
        x.make(0, 7);
        x.make(0, 8);
        x.valve(2);
        CHECK.due("house(2, 1)", x.house(2, 1), 5);
        CHECK.due("house(1, 6)", x.house(1, 6), 8);
        CHECK.due("house(1, 4)", x.house(1, 4), 1);
        CHECK.due("undo()", x.undo(), 3);
        CHECK.due("house(2, 1)", x.house(2, 1), 4);
        CHECK.due("undo()", x.undo(), 2);
        CHECK.due("house(1, 6)", x.house(1, 6), 7);
        CHECK.due("heard(1, 0)", x.heard(1, 0), 2);
        CHECK.due("undo()", x.undo(), 1);
        CHECK.due("house(1, 4)", x.house(1, 4), 0);
        CHECK.due("house(1, 6)", x.house(1, 6), 3);
        CHECK.due("undo()", x.undo(), 0);
        CHECK.due("house(3, 0)", x.house(3, 0), 60);
        CHECK.due("undo()", x.undo(), -1);
        for (int i = 0; i < 25; i++) {
            x.turn(3, i);
        }
        CHECK.due("count(10)", x.count(10), 20);
        for (int i = 19; i >= 0; i--) {
            CHECK.due("undo()", x.undo(), i);
        }
        CHECK.due("undo()", x.undo(), -1);
        CHECK.due("house(3, 0)", x.house(3, 0), 4);
        x.make(3, 1);
        CHECK.due("a sound that nobody hears can be undone", x.count(10), 1);
        x.go(0);
        CHECK.due("no hour went by", x.count(10), 1);
        x.go(100);
        CHECK.due("no hour went by", x.count(10), 1);
        x.go(1);
        CHECK.due("an hour went by", x.count(10), 0);
        CHECK.due("undo()", x.undo(), -1);
    }

    private static void image() {
        CHECK.part("41, 42");
        StaticDial x = Check.told(FOUR + "fade 50;seed 1;");
        CHECK.due("back()", x.back(), -1);
        x.go(1);
        CHECK.due("keep()", x.keep(), 1);
        x.make(1, 5);
        x.turn(0, 90);
        x.note(0, 0, true);
        x.go(5);
        int gains = x.count(7);
        x.turn(0, 80);
        CHECK.due("back()", x.back(), 1);
        CHECK.due("count(10)", x.count(10), 0);
        CHECK.due("house(0, 0)", x.house(0, 0), 10);
        CHECK.due("house(2, 6)", x.house(2, 6), 0);
        CHECK.due("count(6)", x.count(6), 1);
        CHECK.due("notes stay", x.count(8), 1);
        x.go(5);
        CHECK.due("the numbers are as they were", x.count(7), gains);
        CHECK.due("keep() in place of it", x.keep(), 6);
        x.go(1);
        CHECK.due("back()", x.back(), 6);
        x.turn(0, 1);
        CHECK.due("keep()", x.keep(), 6);
        CHECK.due("keep leaves what can be undone", x.count(10), 1);
        CHECK.due("undo()", x.undo(), 0);
        CHECK.due("back()", x.back(), 6);
        CHECK.due("house(0, 0)", x.house(0, 0), 1);
        CHECK.due("back() again", x.back(), 6);
    }

    private static void counts() {
        CHECK.part("43");
        StaticDial x = Check.told(FOUR + "law reach gain + (3 - 0);law drift not 1;");
        int[] want = {4, 1, 5, 7, 0, 0, 0, 8, 0, 0, 0};
        for (int what = 0; what < want.length; what++) {
            CHECK.due("count(" + what + ")", x.count(what), want[what]);
        }
        CHECK.due("count(11)", x.count(11), -1);
        CHECK.due("count(-1)", x.count(-1), -1);
        x.go(4);
        x.turn(0, 9);
        x.note(0, 0, true);
        x.see(1, 0, 1, true);
        x.strike(0);
        x.known(2);
        int[] then = {4, 1, 5, 7, 4, 3, 6, 8, 3, 2, 1};
        for (int what = 0; what < then.length; what++) {
            CHECK.due("count(" + what + ")", x.count(what), then[what]);
        }
    }
}
