/** Promises 1 to 5, and the TEXT and its FAULTS of "Terms": a test for each sentence that names a boundary. */
public final class BoundaryTextTest {
    private static final Check CHECK = new Check();
    private static final int MIN = Integer.MIN_VALUE;
    private static final int MAX = Integer.MAX_VALUE;
    private static final int BLANKS = 0x20202020;

    public static void main(String[] args) {
        newObject();
        bytesComeBehindTheTape();
        noneComeBehindTheSevenHundredth();
        theFirstBytesAreTheText();
        tapeIsEmptyThen();
        allIsNewThen();
        howManyLines();
        allStaysWithAFault();
        tapeStaysIfThereAreNotSoMany();
        faultOfTheLatestText();
        noOtherFault();
        lettersOfAName();
        noneSuch();
        wordsAreSmallLetters();
        namesOfOneToSixLetters();
        namesAreNotOfTheLanguage();
        numbersAreDigits();
        blanks();
        linesEnd();
        sixHouses();
        tenTurns();
        twelveSounds();
        eachHouseAndHourOnce();
        near();
        often();
        fade();
        seed();
        numbersOfE();
        equalsBelongsToIt();
        oneComparison();
        openSigns();
        nothingIsLeftOfAFault();
        nothingIsLeftOfManyFaults();
        knots();
        theLengthIfMoreMustCome();
        theFirstAlongTheText();
        ofOnePlaceTheLeast();
        toldAlready();
        notToldAhead();
        CHECK.end();
    }

    private static void ok(String text) {
        CHECK.fault(text, 0, -1);
    }

    private static void newObject() {
        CHECK.part("1: A TEXT without LINES; an empty TAPE");
        CHECK.due("text(0)", new StaticDial().text(0), 0);
        CHECK.due("text(1)", new StaticDial().text(1), -2);
        CHECK.due("feed", new StaticDial().feed(0, 0, 0, 0, 0), 20);
        StaticDial x = new StaticDial();
        for (int what = 0; what <= 10; what++) {
            CHECK.due("count(" + what + ")", x.count(what), 0);
        }
        CHECK.due("fault(0)", x.fault(0), 0);
        CHECK.due("fault(1)", x.fault(1), -1);
        CHECK.due("undo()", x.undo(), -1);
        CHECK.due("back()", x.back(), -1);
        StaticDial y = new StaticDial();
        y.text(0);
        CHECK.due("a new object", Trace.of(x), Trace.of(y));
    }

    private static void bytesComeBehindTheTape() {
        CHECK.part("2: Twenty bytes come behind the TAPE, four of each number, the highest first: how many it has");
        for (int at = 0; at < 20; at++) {
            int[] numbers = {BLANKS, BLANKS, BLANKS, BLANKS, BLANKS};
            numbers[at / 4] |= 0xff << 24 - at % 4 * 8;
            StaticDial x = new StaticDial();
            CHECK.due("feed", x.feed(BLANKS, BLANKS, BLANKS, BLANKS, BLANKS), 20);
            CHECK.due("feed", x.feed(numbers[0], numbers[1], numbers[2], numbers[3], numbers[4]), 40);
            CHECK.due("text(" + (20 + at) + ")", x.text(20 + at), 0);
            x.feed(numbers[0], numbers[1], numbers[2], numbers[3], numbers[4]);
            CHECK.due("text(20)", x.text(20), -1);
            CHECK.due("fault(1)", x.fault(1), at);
        }
        for (int number : new int[] {0, -1, MIN, MAX}) {
            StaticDial x = new StaticDial();
            CHECK.due("feed", x.feed(number, number, number, number, number), 20);
            CHECK.due("text(20)", x.text(20), -1);
            CHECK.due("fault(1)", x.fault(1), 0);
        }
    }

    private static StaticDial fed(int times) {
        StaticDial x = new StaticDial();
        for (int i = 1; i <= times; i++) {
            CHECK.due("feed", x.feed(BLANKS, BLANKS, BLANKS, BLANKS, BLANKS), 20 * i);
        }
        return x;
    }

    private static void noneComeBehindTheSevenHundredth() {
        CHECK.part("2: NONE, and none come, if it would have more than 700");
        StaticDial x = fed(34);
        CHECK.due("feed: 700", x.feed(BLANKS, BLANKS, BLANKS, BLANKS, 0x2020203b), 700);
        CHECK.due("feed: 720", x.feed(0, 0, 0, 0, 0), -1);
        CHECK.due("feed again", x.feed(0, 0, 0, 0, 0), -1);
        CHECK.due("text(701)", x.text(701), -2);
        CHECK.due("text(720)", x.text(720), -2);
        CHECK.due("text(700)", x.text(700), -1);
        CHECK.due("the last one stays", x.fault(1), 699);
        CHECK.due("feed behind a text", x.feed(0, 0, 0, 0, 0), 20);
        CHECK.due("text(699)", fed(35).text(699), 0);
    }

    private static void theFirstBytesAreTheText() {
        CHECK.part("3: The TAPE's first n bytes are the TEXT");
        int[] lines = {0, -1, -1, -1, -1, -1, -1, 1, 1, -1, -1, -1, -1, -1, -1, -1, 2, 2, 2, 2, 2};
        for (int n = 0; n <= 20; n++) {
            StaticDial x = new StaticDial();
            // "near 1; often 2;    "
            x.feed(0x6e656172, 0x20313b20, 0x6f667465, 0x6e20323b, BLANKS);
            CHECK.due("text(" + n + ")", x.text(n), lines[n]);
            CHECK.due("fault(0)", x.fault(0), lines[n] < 0 ? 1 : 0);
        }
    }

    private static void tapeIsEmptyThen() {
        CHECK.part("3: it is empty then");
        for (int n : new int[] {0, 1, 39, 40}) {
            StaticDial x = fed(2);
            CHECK.due("text(" + n + ")", x.text(n), 0);
            CHECK.due("text(1)", x.text(1), -2);
            CHECK.due("feed", x.feed(BLANKS, BLANKS, BLANKS, BLANKS, BLANKS), 20);
        }
        StaticDial x = new StaticDial();
        CHECK.due("a text with a fault", Check.tell(x, "near"), -1);
        CHECK.due("text(1)", x.text(1), -2);
        CHECK.due("feed", x.feed(BLANKS, BLANKS, BLANKS, BLANKS, BLANKS), 20);
    }

    private static final String TEXT = "house a 10 3;house b 12 3;sound a 0 1;often 1;fade 50;seed 3;";

    private static StaticDial lived() {
        StaticDial x = Check.told(TEXT);
        x.go(3);
        x.make(1, 4);
        x.note(0, 1, true);
        x.see(1, 1, 0, true);
        x.strike(1);
        x.known(1);
        x.keep();
        x.turn(0, 20);
        return x;
    }

    private static void allIsNewThen() {
        CHECK.part("3: HOUR 0, nobody HEARD, KNOWN, no NOTES, SIGHTS, all KNOWN, no IMAGE, nothing to undo then");
        StaticDial x = lived();
        CHECK.due("text", Check.tell(x, TEXT), 6);
        CHECK.due("all is new", Trace.of(x), Trace.of(Check.told(TEXT)));
        x = lived();
        CHECK.due("text(0)", x.text(0), 0);
        CHECK.due("all is new", Trace.of(x), Trace.of(new StaticDial()));
        // houses of texts ahead leave no strength behind
        x = lived();
        String six = "house a 1 9;house b 1 9;house c 1 9;house d 1 9;house e 1 9;house f 1 9;";
        for (int i = 0; i < 2; i++) {
            CHECK.due("text", Check.tell(x, six), 6);
            CHECK.due("count(7)", x.count(7), 54);
        }
        for (int i = 0; i < 2; i++) {
            CHECK.due("text", Check.tell(x, "house a 1 2;"), 1);
            CHECK.due("count(7)", x.count(7), 2);
        }
        x = lived();
        Check.tell(x, TEXT);
        x.note(0, 1, true);
        x.note(0, 1, true);
        CHECK.due("all are known: count(9)", x.count(9), 2);
    }

    private static void howManyLines() {
        CHECK.part("3: how many LINES");
        StaticDial x = new StaticDial();
        CHECK.due("none", Check.tell(x, " \n "), 0);
        CHECK.due("one", Check.tell(x, "near 0;"), 1);
        StringBuilder full = new StringBuilder();
        for (char c = 'a'; c <= 'f'; c++) {
            full.append("house ").append(c).append(" 1 1;");
        }
        full.append("turn a 1 1;".repeat(10));
        for (int i = 0; i < 12; i++) {
            full.append("sound f ").append(i).append(" 1;");
        }
        full.append("near 1;often 1;fade 1;seed 1;law reach 1;law learn 1;law drift 1;");
        CHECK.due("all that may be told", Check.tell(x, full.toString()), 35);
        CHECK.due("count(0)", x.count(0), 6);
        CHECK.due("count(1)", x.count(1), 10);
        CHECK.due("count(2)", x.count(2), 12);
        CHECK.due("count(3)", x.count(3), 3);
        CHECK.due("on a full tape", Check.tell(x, full + " ".repeat(700 - full.length())), 35);
    }

    private static void allStaysWithAFault() {
        CHECK.part("3: NONE with a FAULT, all stays");
        String amiss = "house c 1 1;house d 2 2;turn c 1 1;sound d 0 2;near 9;often 9;fade 0;seed 1;"
            + "law reach 1;law learn 1;law drift 1;";
        for (String end : new String[] {"near 1;", "x", "law", "house e 100 1;", "turn e 1 1;"}) {
            StaticDial x = lived();
            CHECK.due("text", Check.tell(x, amiss + end), -1);
            CHECK.due("all stays", Trace.butTape(x), Trace.butTape(lived()));
        }
    }

    private static void tapeStaysIfThereAreNotSoMany() {
        CHECK.part("3: -2, and the TAPE stays: there are not so many, n is below 0");
        for (int n : new int[] {21, 40, 700, MAX, -1, -20, MIN}) {
            StaticDial x = new StaticDial();
            CHECK.due("text(" + n + ") of an empty tape", x.text(n), -2);
            x.feed(0x6e656172, 0x20313b20, BLANKS, BLANKS, BLANKS);
            CHECK.due("text(" + n + ")", x.text(n), -2);
            CHECK.due("feed", x.feed(BLANKS, BLANKS, BLANKS, BLANKS, 0x20202023), 40);
            CHECK.due("text(41)", x.text(41), -2);
            CHECK.due("text(39)", x.text(39), 1);
        }
    }

    private static void faultOfTheLatestText() {
        CHECK.part("4: Of the latest text() that was not -2: its FAULT (0), its place (NONE without)");
        StaticDial x = new StaticDial();
        dueFault(x, 0, -1);
        x.text(1);
        dueFault(x, 0, -1);
        Check.tell(x, "near 21;");
        dueFault(x, 2, 5);
        x.text(1);
        dueFault(x, 2, 5);
        x.text(-1);
        dueFault(x, 2, 5);
        Check.tell(x, "#");
        dueFault(x, 1, 0);
        Check.tell(x, "near 2;");
        dueFault(x, 0, -1);
        Check.tell(x, "turn a 1 1;");
        dueFault(x, 4, 5);
        x.text(0);
        dueFault(x, 0, -1);
        Check.tell(x, "near 2;near 2;");
        dueFault(x, 3, 7);
    }

    private static void dueFault(StaticDial x, int fault, int place) {
        CHECK.due("fault(0)", x.fault(0), fault);
        CHECK.due("fault(1)", x.fault(1), place);
    }

    private static void noOtherFault() {
        CHECK.part("4: NONE for another what");
        StaticDial x = new StaticDial();
        Check.tell(x, "near 21;");
        for (int what : new int[] {-1, 2, 3, MIN, MAX}) {
            CHECK.due("fault(" + what + ")", x.fault(what), -1);
        }
    }

    private static int letters(String name) {
        int letters = 0;
        for (int i = 0; i < 6; i++) {
            letters = letters * 32 + (i < name.length() ? name.charAt(i) - 'a' + 1 : 0);
        }
        return letters;
    }

    private static void lettersOfAName() {
        CHECK.part("5: 5 bits each (a is 1; the first one highest of six, 0 behind the last one)");
        String[] names = {"a", "z", "aaaaaa", "zzzzzz", "az", "za"};
        StringBuilder text = new StringBuilder();
        for (String name : names) {
            text.append("house ").append(name).append(" 1 1;");
        }
        StaticDial x = Check.told(text.toString());
        for (int i = 0; i < names.length; i++) {
            CHECK.due("named " + names[i], x.named(letters(names[i])), i);
        }
        CHECK.due("named a", x.named(0x02000000), 0);
        CHECK.due("named z", x.named(0x34000000), 1);
        CHECK.due("named aaaaaa", x.named(0x02108421), 2);
        CHECK.due("named zzzzzz", x.named(0x35ad6b5a), 3);
    }

    private static void noneSuch() {
        CHECK.part("5: NONE: there is none such");
        CHECK.due("without houses", new StaticDial().named(0), -1);
        CHECK.due("without houses", new StaticDial().named(1 << 25), -1);
        StaticDial x = Check.told("house ab 1 1;");
        for (int letters : new int[] {0, 1, -1, MIN, MAX, letters("a"), letters("b"), letters("ba"), letters("aba"),
            letters("ab") + 1, letters("ab") | 1 << 30, letters("ab") | MIN, letters("ab") >> 5, 0x3fffffff}) {
            CHECK.due("named(" + letters + ")", x.named(letters), -1);
        }
        // the houses of a text ahead are gone
        Check.tell(x, "house cd 1 1;");
        CHECK.due("named ab", x.named(letters("ab")), -1);
        x.text(0);
        CHECK.due("named cd", x.named(letters("cd")), -1);
    }

    private static void wordsAreSmallLetters() {
        CHECK.part("Words: small letters in a row");
        ok("house a 1 1;house z 1 1;");
        for (char c : new char[] {'`', '{', 'A', 'Z', '_', 0, 127, 128, 225, 255}) {
            CHECK.fault("house " + c + " 1 1;", 1, 6);
            CHECK.fault("house a" + c + " 1 1;", 1, 7);
        }
    }

    private static void namesOfOneToSixLetters() {
        CHECK.part("W: one of 1 .. 6 letters");
        ok("house a 1 1;turn a 1 1;sound a 1 1;");
        ok("house abcdef 1 1;turn abcdef 1 1;sound abcdef 1 1;");
        CHECK.fault("house 1 1;", 1, 6);
        CHECK.fault("house abcdefg 1 1;", 1, 6);
        CHECK.fault("house abcdef 1 1;turn abcdefg 1 1;", 1, 22);
        CHECK.fault("house abcdef 1 1;sound abcdefg 1 1;", 1, 23);
        CHECK.fault("house " + "a".repeat(690), 1, 6);
        // seven letters that are alike in six
        CHECK.fault("house abcdef 1 1;house abcdefa 1 1;", 1, 23);
    }

    private static void namesAreNotOfTheLanguage() {
        CHECK.part("W: none of those of the language");
        for (String word : ("house turn sound near often fade seed law reach learn drift or and not dial gain far kind "
            + "heard knows hour").split(" ")) {
            CHECK.fault("house " + word + " 1 1;", 1, 6);
            CHECK.fault("house a 1 1;turn " + word + " 1 1;", 1, 17);
            CHECK.fault("house a 1 1;sound " + word + " 1 1;", 1, 18);
            ok("house " + word.substring(1) + " 1 1;");
            ok("house " + word + "s 1 1;");
        }
        for (String word : "e n w line text turns blank".split(" ")) {
            ok("house " + word + " 1 1;");
        }
    }

    private static void numbersAreDigits() {
        CHECK.part("N: digits");
        ok("near 0;");
        ok("near 000000000000000000000000000000000000020;");
        CHECK.fault("near ;", 1, 5);
        CHECK.fault("near -1;", 1, 5);
        CHECK.fault("near +1;", 1, 5);
        CHECK.fault("near 1.0;", 1, 6);
        CHECK.fault("near 1:;", 1, 6);
        CHECK.fault("near x;", 1, 5);
        CHECK.fault("near 1 2;", 1, 7);
        for (String number : new String[] {"2147483648", "4294967296", "4294967297", "9223372036854775808",
            "18446744073709551616", "18446744073709551617", "9".repeat(600)}) {
            CHECK.fault("near " + number + ";", 2, 5);
            CHECK.fault("law reach " + number + ";", 2, 10);
        }
    }

    private static void blanks() {
        CHECK.part("Blanks 10, 32");
        ok(" \n near\n1 ; \n");
        ok("house\na\n1\n1\n;\n");
        for (int c : new int[] {0, 9, 11, 12, 13, 31, 33, 160}) {
            CHECK.fault("near 1;" + (char) c, 1, 7);
            CHECK.fault("near" + (char) c + "1;", 1, 4);
        }
        CHECK.fault("ne ar 1;", 1, 0);
        CHECK.fault("near 1 0;", 1, 7);
    }

    private static void linesEnd() {
        CHECK.part("A TEXT: { LINE ';' }");
        ok("");
        ok("near 1;");
        CHECK.fault(";", 1, 0);
        CHECK.fault("near 1;;", 1, 7);
        CHECK.fault("near 1 often 1;", 1, 7);
        CHECK.fault("near 1", 1, 6);
        CHECK.fault("law reach 1 near 1;", 1, 12);
    }

    private static String houses(int n) {
        StringBuilder text = new StringBuilder();
        for (int i = 0; i < n; i++) {
            text.append("house ").append((char) ('a' + i)).append(" 1 1;");
        }
        return text.toString();
    }

    private static void sixHouses() {
        CHECK.part("HOUSES, at most 6: DIAL 0 .. 99, GAIN 0 .. 9");
        ok(houses(6));
        CHECK.fault(houses(7), 2, 72);
        CHECK.fault(houses(6) + "house", 2, 72);
        CHECK.fault(houses(6) + "\n house a 100 10;", 2, 74);
        ok("house a 0 0;house b 99 9;");
        CHECK.fault("house a 100 0;", 2, 8);
        CHECK.fault("house a 0 10;", 2, 10);
        StaticDial x = Check.told("house a 0 9;house b 99 0;");
        CHECK.due("house(0, 0)", x.house(0, 0), 0);
        CHECK.due("house(0, 1)", x.house(0, 1), 9);
        CHECK.due("house(1, 0)", x.house(1, 0), 99);
        CHECK.due("house(1, 1)", x.house(1, 1), 0);
    }

    private static void tenTurns() {
        CHECK.part("TURNS, at most 10: of a HOUSE at an HOUR 0 .. 99 to a DIAL 0 .. 99");
        String ten = "house a 1 1;" + "turn a 0 1;".repeat(10);
        ok(ten);
        CHECK.fault(ten + "turn a 0 1;", 2, 122);
        CHECK.fault(ten + "turn", 2, 122);
        CHECK.fault(ten + "turn b 100 100;", 2, 122);
        ok("house a 1 1;turn a 0 0;turn a 99 99;");
        CHECK.fault("house a 1 1;turn a 100 0;", 2, 19);
        CHECK.fault("house a 1 1;turn a 0 100;", 2, 21);
        // ten of other lines don't count
        ok(ten + "sound a 1 1;near 1;");
    }

    private static void twelveSounds() {
        CHECK.part("SOUNDS, at most 12: of a HOUSE at an HOUR 0 .. 99, of a KIND 1 .. 9");
        StringBuilder twelve = new StringBuilder("house a 1 1;house b 1 1;");
        for (int i = 0; i < 6; i++) {
            twelve.append("sound a ").append(i).append(" 1;sound b ").append(i).append(" 1;");
        }
        ok(twelve.toString());
        CHECK.fault(twelve + "sound a 6 1;", 2, 24 + 12 * 12);
        CHECK.fault(twelve + "sound", 2, 24 + 12 * 12);
        CHECK.fault(twelve + "sound a 0 0;", 2, 24 + 12 * 12);
        ok("house a 1 1;sound a 0 1;sound a 99 9;");
        CHECK.fault("house a 1 1;sound a 100 1;", 2, 20);
        CHECK.fault("house a 1 1;sound a 0 0;", 2, 22);
        CHECK.fault("house a 1 1;sound a 0 10;", 2, 22);
        StaticDial x = Check.told("house a 1 1;sound a 0 1;sound a 99 9;");
        CHECK.due("sound(0, 0)", x.sound(0, 0), 1);
        CHECK.due("sound(0, 99)", x.sound(0, 99), 9);
    }

    private static void eachHouseAndHourOnce() {
        CHECK.part("each HOUSE and HOUR once");
        ok("house a 1 1;house b 1 1;sound a 5 1;sound b 5 1;sound a 6 1;sound b 4 1;");
        CHECK.fault("house a 1 1;sound a 0 1;sound a 0 1;", 3, 32);
        CHECK.fault("house a 1 1;sound a 99 1;sound a 99 2;", 3, 33);
        CHECK.fault("house a 1 1;sound a 5 1;sound a 005", 3, 32);
        // turns may be told again and again
        ok("house a 1 1;turn a 5 1;turn a 5 1;");
    }

    private static void near() {
        CHECK.part("near: 0 .. 20 (3 without)");
        ok("near 0;");
        ok("near 20;");
        CHECK.fault("near 21;", 2, 5);
        String two = "house a 10 0;house b 13 0;house c 17 0;";
        CHECK.due("3 without", Check.told(two).house(1, 2), 1);
        CHECK.due("near 2", Check.told(two + "near 2;").house(1, 2), 0);
        CHECK.due("near 3", Check.told(two + "near 3;").house(1, 2), 1);
        CHECK.due("near 4", Check.told(two + "near 4;").house(1, 2), 5);
        CHECK.due("near 0", Check.told("house a 10 0;house b 10 0;house c 11 0;near 0;").house(0, 2), 2);
        CHECK.due("near 20", Check.told("house a 10 0;house b 30 0;house c 31 0;near 20;").house(0, 2), 2);
    }

    private static void often() {
        CHECK.part("often: 1 .. 9 (2 without)");
        CHECK.fault("often 0;", 2, 6);
        ok("often 1;");
        ok("often 9;");
        CHECK.fault("often 10;", 2, 6);
        dueOften("", 2);
        dueOften("often 1;", 1);
        dueOften("often 9;", 9);
    }

    private static void dueOften(String line, int needed) {
        StaticDial x = Check.told("house a 1 1;house b 1 1;" + line);
        for (int i = 1; i <= needed; i++) {
            CHECK.due("not yet", x.house(1, 4), 0);
            x.make(0, 1);
        }
        CHECK.due("now", x.house(1, 4), 1);
    }

    private static void fade() {
        CHECK.part("fade: of a hundred 0 .. 100 (0)");
        ok("fade 0;");
        ok("fade 100;");
        CHECK.fault("fade 101;", 2, 5);
        CHECK.due("0 without", gainsBehind("house a 1 9;house b 1 9;"), 18);
        CHECK.due("fade 0", gainsBehind("house a 1 9;house b 1 9;fade 0;"), 18);
        CHECK.due("fade 100", gainsBehind("house a 1 9;house b 1 9;fade 100;"), 10);
    }

    /** The gain of all behind four hours. */
    private static int gainsBehind(String text) {
        StaticDial x = Check.told(text);
        x.go(4);
        return x.count(7);
    }

    private static void seed() {
        CHECK.part("seed: 0 .. 99999 (0)");
        ok("seed 0;");
        ok("seed 99999;");
        CHECK.fault("seed 100000;", 2, 5);
        for (int fade : new int[] {10, 50, 90}) {
            String text = "house a 1 9;house b 1 9;house c 1 9;fade " + fade + ";";
            CHECK.due("0 without", gainsBehind(text), gainsBehind(text + "seed 0;"));
            CHECK.due("seed 99999", gainsBehind(text + "seed 99999;"), 27 - below(fade, 99999, 12));
        }
    }

    private static int below(int fade, int seed, int times) {
        long number = seed;
        int below = 0;
        for (int i = 0; i < times; i++) {
            number = (number * 1103515245L + 12345L) % (1L << 31);
            below += number / 65536 % 100 < fade ? 1 : 0;
        }
        return below;
    }

    private static void numbersOfE() {
        CHECK.part("N of E 0 .. 9999");
        ok("law reach 0;law learn 9999;law drift 09999;");
        CHECK.fault("law reach 10000;", 2, 10);
        CHECK.fault("law reach 1+10000;", 2, 12);
        CHECK.fault("law reach not (10000);", 2, 15);
        CHECK.due("9999", Check.told("house a 1 1;law drift 9999;").law(2, 0, 0), 9999);
        CHECK.due("0", Check.told("house a 1 1;law drift 0;").law(2, 0, 0), 0);
    }

    private static void equalsBelongsToIt() {
        CHECK.part("A = (or > behind <) right behind < or > belongs to it");
        ok("law reach 1<=1;law learn 1>=1;law drift 1<>1;");
        CHECK.fault("law reach 1< =1;", 1, 13);
        CHECK.fault("law reach 1> =1;", 1, 13);
        CHECK.fault("law reach 1< >1;", 1, 13);
        CHECK.fault("law reach 1<\n=1;", 1, 13);
        CHECK.fault("law reach 1><1;", 1, 12);
        CHECK.fault("law reach 1>>1;", 1, 12);
        CHECK.fault("law reach 1<<1;", 1, 12);
        CHECK.fault("law reach 1==1;", 1, 12);
        CHECK.fault("law reach 1=<1;", 1, 12);
        CHECK.fault("law reach 1=>1;", 1, 12);
        CHECK.fault("law reach 1<=>1;", 1, 13);
        CHECK.fault("law reach 1<>=1;", 1, 13);
        CHECK.fault("law reach 1>==1;", 1, 13);
        CHECK.fault("law reach 1<", 1, 12);
        CHECK.fault("law reach 1<=", 1, 13);
        CHECK.due("one knot each", Check.told("law reach 1<=1;law learn 1>=1;law drift 1<>1;").count(3), 9);
    }

    private static void oneComparison() {
        CHECK.part("C: S [ ( < | <= | = | <> | >= | > ) S ]");
        for (String sign : "< <= = <> >= >".split(" ")) {
            ok("law reach 1 " + sign + " 2;");
            ok("law reach 1 " + sign + " 2 and 1 " + sign + " 2;");
            ok("law reach (1 " + sign + " 2) " + sign + " 2;");
            CHECK.fault("law reach 1 " + sign + " 2 " + sign + " 3;", 1, 15 + sign.length());
            CHECK.fault("law reach " + sign + " 2;", 1, 10);
            CHECK.fault("law reach 1 " + sign + ";", 1, 12 + sign.length());
        }
        CHECK.fault("law reach 1 < not 2;", 1, 14);
        CHECK.fault("law reach 1 + not 2;", 1, 14);
        CHECK.fault("law reach 1 / not 2;", 1, 14);
        CHECK.fault("law reach and 1;", 1, 10);
        CHECK.fault("law reach 1 and;", 1, 15);
        CHECK.fault("law reach 1 or or 1;", 1, 15);
        CHECK.fault("law reach not;", 1, 13);
        CHECK.fault("law reach 1 not 1;", 1, 12);
        CHECK.fault("law;", 1, 3);
        CHECK.fault("law 1;", 1, 4);
        CHECK.fault("law reach 1 1;", 1, 12);
        CHECK.fault("law reach dial 1;", 1, 15);
        CHECK.fault("law reach ;", 1, 10);
    }

    private static void openSigns() {
        CHECK.part("2: a ninth '(' open");
        ok("law reach ((((((((1))))))));");
        CHECK.fault("law reach (((((((((1)))))))));", 2, 18);
        ok("law reach ((((((((1)))))))+(1));");
        CHECK.fault("law reach ((((((((1)+((1)))))))));", 2, 22);
        // those that are closed don't count, nor those of another law
        ok("law reach ((((((((1))))))))+((((((((1))))))));law learn ((((((((1))))))));");
        ok("law reach " + "(1)+".repeat(20) + "(1);");
        CHECK.fault("law reach 1);", 1, 11);
        CHECK.fault("law reach (1));", 1, 13);
        CHECK.fault("law reach ((1);", 1, 14);
        CHECK.fault("law reach );", 1, 10);
        CHECK.fault("law reach ();", 1, 11);
        CHECK.fault("law reach ((((((((;", 1, 18);
        CHECK.fault("law reach ((((((((", 1, 18);
        CHECK.fault("law reach (((((((( (", 2, 19);
    }

    private static void nothingIsLeftOfAFault() {
        CHECK.part("3: NONE with a FAULT, all stays: the next TEXT is read from its own beginning");
        for (String amiss : new String[] {"law drift ((1+2*", "law drift not (not (1 <", "law drift 1 or 2 and 3 < 4 + 5 *",
            "law drift (((((((((", "house b 5 5;house c 6", "near 5;often 5;fade 5;seed 5;#", "law reach 1;law learn 1;x"}) {
            StaticDial x = new StaticDial();
            CHECK.due(amiss, Check.tell(x, amiss), -1);
            CHECK.due("text", Check.tell(x, "house a 1 1;near 1;often 1;fade 1;seed 1;law drift 1 + 2 * (3 - 1);"), 6);
            CHECK.due("law(2, 0, 0)", x.law(2, 0, 0), 5);
            CHECK.due("count(3)", x.count(3), 7);
            CHECK.due("count(0)", x.count(0), 1);
            CHECK.due("law(0, 0, 1)", x.law(0, 0, 1), Long.MIN_VALUE);
        }
    }

    private static void nothingIsLeftOfManyFaults() {
        CHECK.part("3: NONE with a FAULT, all stays: again and again");
        StaticDial x = new StaticDial();
        for (int i = 0; i < 40; i++) {
            CHECK.due("((((((((", Check.tell(x, "law drift (((((((( 1 or 1 and not 1 < 1 + 1 *"), -1);
        }
        CHECK.due("text", Check.tell(x, "house a 1 1;law drift 1 + 2 * (3 - (4 - (5 - (6 - (7 - 1)))));"), 2);
        CHECK.due("law(2, 0, 0)", x.law(2, 0, 0), 9);
    }

    private static void knots() {
        CHECK.part("2: a 65th KNOT of all E (N, NAMES, signs, not, and, or: one each)");
        CHECK.due("none", Check.told("house a 1 1;near 1;").count(3), 0);
        CHECK.due("one", Check.told("law reach 1;").count(3), 1);
        CHECK.due("one of each", Check.told("law reach not 1 + dial - 2 * 3 / 4 < 5 and 6 = 7 or 8;").count(3), 18);
        CHECK.due("( and ) are none", Check.told("law reach ((1)+(2));").count(3), 3);
        String most = "1" + "+1".repeat(31);
        CHECK.due("63", Check.told("law reach " + most + ";").count(3), 63);
        CHECK.due("64", Check.told("law reach not " + most + ";").count(3), 64);
        CHECK.fault("law reach " + most + "+1;", 2, 10 + 64);
        CHECK.fault("law reach not " + most + "+1;", 2, 14 + 63);
        String sixtyThree = "law reach " + most + ";";
        ok(sixtyThree + "law learn 1;");
        ok(sixtyThree + "law learn dial;");
        CHECK.fault(sixtyThree + "law learn not 1;", 2, sixtyThree.length() + 14);
        CHECK.fault(sixtyThree + "law learn 1 and 1;", 2, sixtyThree.length() + 12);
        CHECK.fault(sixtyThree + "law learn 1<1;", 2, sixtyThree.length() + 11);
        CHECK.fault(sixtyThree + "law learn 1;law drift 1;", 2, sixtyThree.length() + 12 + 10);
        CHECK.fault(sixtyThree + "law learn 1;law drift (dial);", 2, sixtyThree.length() + 12 + 11);
        CHECK.fault(sixtyThree + "law learn 1;law drift not 1;", 2, sixtyThree.length() + 12 + 10);
        for (String sign : "< <= = <> >= > + - * / and or".split(" ")) {
            CHECK.fault("law reach not " + most + " " + sign + " 1;", 2, 14 + 64);
        }
        // the knots of a text ahead don't count
        StaticDial x = Check.told("law reach not " + most + ";");
        CHECK.due("text", Check.tell(x, "law reach not " + most + "+1;"), -1);
        CHECK.due("count(3)", x.count(3), 64);
        CHECK.due("text", Check.tell(x, "law reach not " + most + ";"), 1);
    }

    private static void theLengthIfMoreMustCome() {
        CHECK.part("1: the length, if more must come");
        String text = "house a 1 1;turn a 1 1;sound a 1 1;near 1;often 1;fade 1;seed 1;law reach (1+2)*3;";
        int cutOff = 0;
        for (int n = 0; n <= text.length(); n++) {
            StaticDial x = new StaticDial();
            int lines = Check.tell(x, text.substring(0, n));
            boolean isWhole = n == 0 || text.charAt(n - 1) == ';';
            boolean isInWord = n > 0 && n < text.length() && isLetter(text.charAt(n - 1)) && isLetter(text.charAt(n));
            if (!isInWord) {
                CHECK.due("text " + text.substring(0, n), lines < 0, !isWhole);
                CHECK.due("fault(1) of " + text.substring(0, n), x.fault(1), isWhole ? -1 : n);
                CHECK.due("fault(0) of " + text.substring(0, n), x.fault(0), isWhole ? 0 : 1);
            } else {
                cutOff += x.fault(0) == 1 ? 1 : 0;
            }
        }
        CHECK.due("words that are cut off", cutOff, 30);
        CHECK.fault("near 1 \n ", 1, 9);
        CHECK.fault("near" + " ".repeat(696), 1, 700);
    }

    private static boolean isLetter(char c) {
        return c >= 'a' && c <= 'z';
    }

    private static void theFirstAlongTheText() {
        CHECK.part("FAULTS, the first along the text");
        CHECK.fault("near 21;near 1;#", 2, 5);
        CHECK.fault("near 1;near 21;#", 3, 7);
        CHECK.fault("turn a 100 100;", 4, 5);
        CHECK.fault("house a 100 10", 2, 8);
        CHECK.fault("house a 1 1;house a 100 10;", 3, 18);
        CHECK.fault("house a 1 1;sound b 1 0;", 4, 18);
        CHECK.fault("house a 1 1;sound a 1 1;sound a 1 0;", 3, 32);
        CHECK.fault("house a 1 1;sound a 1 0;sound a 1 1;", 2, 22);
        CHECK.fault("law reach 1;law reach #", 3, 16);
        CHECK.fault("law reach 10000;law reach 1;", 2, 10);
        CHECK.fault("law reach 1 #;near 21;", 1, 12);
    }

    private static void ofOnePlaceTheLeast() {
        CHECK.part("of one place the least");
        String most = "not " + "1" + "+1".repeat(31);
        // a 65th knot that can't stand there
        CHECK.fault("law reach " + most + "+not 1;", 2, 14 + 63);
        CHECK.fault("law reach " + most + " not 1;", 1, 14 + 64);
        CHECK.fault("law reach " + most + " 1;", 1, 14 + 64);
        CHECK.fault("law reach " + most + " dial;", 1, 14 + 64);
        CHECK.fault("law reach " + "not ".repeat(64) + "and 1;", 1, 266);
        CHECK.fault("law reach 1<1" + "+1".repeat(30) + "+1<1;", 2, 10 + 64);
        CHECK.fault("law reach not 1<1" + "+1".repeat(30) + "<1;", 1, 14 + 63);
        // a ninth '(' that can't stand there
        CHECK.fault("law reach ((((((((1(", 1, 19);
        CHECK.fault("law reach ((((((((dial (", 1, 23);
        // a number beyond what is said where none can stand, a name of the language told already
        CHECK.fault("near near;", 1, 5);
        CHECK.fault("100000;", 1, 0);
        CHECK.fault("near 1 100000;", 1, 7);
        CHECK.fault("house a 1 1 100;", 1, 12);
        CHECK.fault(houses(6) + "houses", 1, 72);
    }

    private static void toldAlready() {
        CHECK.part("3 told already: a name (at W), near, often, fade, seed (at the word), a law of its LAW (at LAW)");
        CHECK.fault("house a 1 1;house a 1 1;", 3, 18);
        CHECK.fault("house abcdef 1 1;house b 1 1;house abcdef", 3, 35);
        ok("house abcdef 1 1;house abcde 1 1;house bcdef 1 1;");
        String settings = "near 1;often 1;fade 1;seed 1;";
        ok(settings);
        for (String line : new String[] {"near 1;", "often 1;", "fade 1;", "seed 1;"}) {
            CHECK.fault(settings + line, 3, settings.length());
            CHECK.fault(settings + " " + line.substring(0, line.length() - 3), 3, settings.length() + 1);
        }
        // what is told as it is without counts, too
        CHECK.fault("near 3;near 3;", 3, 7);
        CHECK.fault("seed 0;seed 0;", 3, 7);
        CHECK.fault("fade 0;fade 0;", 3, 7);
        CHECK.fault("often 2;often 2;", 3, 8);
        String laws = "law drift 1;law reach 1;law learn 1;";
        ok(laws);
        for (String law : "reach learn drift".split(" ")) {
            CHECK.fault(laws + "law " + law + " 1;", 3, laws.length() + 4);
            CHECK.fault(laws + "law " + law, 3, laws.length() + 4);
        }
    }

    private static void notToldAhead() {
        CHECK.part("4 a HOUSE that isn't told ahead (at W)");
        CHECK.fault("turn a 1 1;", 4, 5);
        CHECK.fault("sound a 1 1;", 4, 6);
        CHECK.fault("turn a 1 1;house a 1 1;", 4, 5);
        CHECK.fault("house a 1 1;turn aa 1 1;", 4, 17);
        CHECK.fault("house aa 1 1;sound a 1 1;", 4, 19);
        StaticDial x = Check.told("house a 1 1;");
        CHECK.due("told in a text ahead", Check.tell(x, "turn a 1 1;"), -1);
        CHECK.due("fault(0)", x.fault(0), 4);
    }
}
