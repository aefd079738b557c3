/** Promises 18, 19 and 33 to 37, with what "Terms" says of them: a test for each sentence that names a boundary. */
public final class BoundaryNoteTest {
    private static final Check CHECK = new Check();
    private static final int MIN = Integer.MIN_VALUE;
    private static final int MAX = Integer.MAX_VALUE;
    private static final String THREE = "house a 1 1;house b 1 1;house c 1 1;sound a 0 1;sound b 0 9;sound a 99 9;";

    public static void main(String[] args) {
        whoseByNothing();
        whoseByAll();
        whoseAsTold();
        askTheHours();
        askTheFirst();
        askOfNobody();
        askIsRefused();
        noteOfHoursAndKinds();
        noteIsRefused();
        seeOfHours();
        seeIsRefused();
        strikeOfOne();
        twentyFourInAll();
        knownByTheFirst();
        knownByAll();
        knownIsRefused();
        strikesOfStrikes();
        strikesThatArentKnown();
        nearsByNothing();
        nearsFromNothingToNine();
        nearsBehindSoManyHours();
        nearsAsItGoes();
        nearsFromTheTextOn();
        nearsByAll();
        CHECK.end();
    }

    private static void whoseByNothing() {
        CHECK.part("18: WHOSE (bits)");
        CHECK.due("without houses", new StaticDial().whose(), 0);
        CHECK.due("one house", Check.told("house a 1 1;").whose(), 1);
        CHECK.due("six houses", Check.told("house a 1 1;house b 1 1;house c 1 1;house d 1 1;house e 1 1;house f 1 1;")
            .whose(), 63);
        StaticDial x = new StaticDial();
        x.note(0, 0, true);
        CHECK.due("without houses", x.whose(), 0);
    }

    private static void dueWhose(int hour, int kind, boolean is, int want) {
        StaticDial x = Check.told(THREE);
        CHECK.due("note", x.note(hour, kind, is), 0);
        CHECK.due("whose() by " + hour + ", " + kind + ", " + is, x.whose(), want);
    }

    private static void whoseByAll() {
        CHECK.part("18: HOUSES of which all that is KNOWN of NOTES is so");
        dueWhose(0, 1, true, 1);
        dueWhose(0, 1, false, 6);
        dueWhose(0, 9, true, 2);
        dueWhose(0, 9, false, 5);
        dueWhose(0, 0, true, 4);
        dueWhose(0, 0, false, 3);
        dueWhose(0, 5, true, 0);
        dueWhose(0, 5, false, 7);
        dueWhose(99, 9, true, 1);
        dueWhose(99, 0, true, 6);
        dueWhose(99, 0, false, 1);
        dueWhose(98, 0, true, 7);
        dueWhose(98, 0, false, 0);
        StaticDial x = Check.told(THREE);
        x.note(0, 0, false);
        x.note(99, 9, false);
        CHECK.due("both are so of b", x.whose(), 2);
        x.note(0, 9, false);
        CHECK.due("of nobody", x.whose(), 0);
    }

    private static void whoseAsTold() {
        CHECK.part("a NOTE: a SOUND was made (as told in the TEXT)");
        StaticDial x = Check.told(THREE);
        x.make(2, 5);
        x.note(0, 5, true);
        CHECK.due("not by call", x.whose(), 0);
        x.strike(0);
        x.go(50);
        x.note(0, 1, true);
        CHECK.due("at any hour", x.whose(), 1);
        x.see(1, 0, 1, true);
        CHECK.due("sights are no notes", x.whose(), 1);
    }

    private static void dueAsk(String text, int hour, int left) {
        StaticDial x = Check.told(text);
        CHECK.due("ask(0) of " + text, x.ask(0), hour);
        CHECK.due("ask(1) of " + text, x.ask(1), left);
    }

    private static void askTheHours() {
        CHECK.part("19: the HOUR 0 .. 23");
        String two = "house a 1 1;house b 1 1;sound a ";
        dueAsk(two + "0 1;", 0, 1);
        dueAsk(two + "1 1;", 1, 1);
        dueAsk(two + "23 1;", 23, 1);
        dueAsk(two + "24 1;", 0, 2);
        dueAsk(two + "99 1;", 0, 2);
    }

    private static void askTheFirst() {
        CHECK.part("19: the most HOUSES that make the same KIND then (or no SOUND) are fewest, the first of several");
        dueAsk("house a 1 1;house b 1 1;sound b 9 1;sound a 7 1;", 7, 1);
        dueAsk("house a 1 1;house b 1 1;house c 1 1;sound a 3 1;sound a 5 1;sound b 5 2;", 5, 1);
        dueAsk("house a 1 1;house b 1 1;house c 1 1;sound a 3 9;sound b 3 9;sound c 8 1;", 3, 2);
        dueAsk("house a 1 1;house b 1 1;sound a 3 9;sound b 3 9;", 0, 2);
        dueAsk("house a 1 1;house b 1 1;sound a 3 1;sound b 3 9;", 3, 1);
        // of whose alone: c is out
        StaticDial x = Check.told("house a 1 1;house b 1 1;house c 1 1;sound c 0 1;sound a 2 1;sound c 2 2;");
        CHECK.due("ask(0)", x.ask(0), 2);
        x.note(0, 0, true);
        CHECK.due("ask(0)", x.ask(0), 2);
        CHECK.due("ask(1)", x.ask(1), 1);
        x.strike(0);
        x.note(2, 1, false);
        CHECK.due("b and c: ask(0)", x.ask(0), 0);
        CHECK.due("b and c: ask(1)", x.ask(1), 1);
    }

    private static void askOfNobody() {
        CHECK.part("19: of nobody");
        CHECK.due("without houses", new StaticDial().ask(0), 0);
        CHECK.due("without houses", new StaticDial().ask(1), 0);
        StaticDial x = Check.told("house a 1 1;house b 1 1;sound a 9 1;");
        x.note(5, 1, true);
        CHECK.due("ask(0)", x.ask(0), 0);
        CHECK.due("ask(1)", x.ask(1), 0);
        dueAsk("house a 1 1;sound a 9 1;", 0, 1);
    }

    private static void askIsRefused() {
        CHECK.part("19: NONE for another what");
        StaticDial x = Check.told(THREE);
        for (int what : new int[] {-1, 2, MIN, MAX}) {
            CHECK.due("ask(" + what + ")", x.ask(what), -1);
            CHECK.due("ask(" + what + ")", new StaticDial().ask(what), -1);
        }
    }

    private static void noteOfHoursAndKinds() {
        CHECK.part("33: at an HOUR 0 .. 99 a SOUND of a KIND 0 .. 9, numbered from 0 on");
        StaticDial x = Check.told(THREE);
        CHECK.due("note(0, 0, true)", x.note(0, 0, true), 0);
        CHECK.due("note(99, 9, false)", x.note(99, 9, false), 1);
        CHECK.due("note(99, 0, false)", x.note(99, 0, false), 2);
        CHECK.due("note(0, 9, true)", x.note(0, 9, true), 3);
        CHECK.due("the same again", x.note(0, 9, true), 4);
        CHECK.due("count(8)", x.count(8), 5);
        CHECK.due("without houses", new StaticDial().note(99, 9, true), 0);
    }

    private static void noteIsRefused() {
        CHECK.part("33: NONE: no such ones");
        StaticDial x = Check.told(THREE);
        for (int hour : new int[] {-1, 100, MIN, MAX}) {
            CHECK.due("note(" + hour + ", 0, true)", x.note(hour, 0, true), -1);
        }
        for (int kind : new int[] {-1, 10, MIN, MAX}) {
            CHECK.due("note(0, " + kind + ", false)", x.note(0, kind, false), -1);
        }
        CHECK.due("count(8)", x.count(8), 0);
    }

    private static void seeOfHours() {
        CHECK.part("34: behind so many HOURS 1 .. 60; numbered on with NOTES");
        StaticDial x = Check.told(THREE);
        CHECK.due("note", x.note(0, 0, true), 0);
        CHECK.due("see(1, ..)", x.see(1, 0, 1, true), 1);
        CHECK.due("see(60, ..)", x.see(60, 2, 0, false), 2);
        CHECK.due("strike", x.strike(1), 3);
        CHECK.due("note", x.note(0, 0, true), 4);
        CHECK.due("count(8)", x.count(8), 5);
    }

    private static void seeIsRefused() {
        CHECK.part("34: NONE: no such ones, alike");
        StaticDial x = Check.told(THREE);
        for (int hours : new int[] {0, -1, 61, MIN, MAX}) {
            CHECK.due("see(" + hours + ", 0, 1, true)", x.see(hours, 0, 1, true), -1);
        }
        for (int[] two : new int[][] {{0, 0}, {2, 2}, {-1, 0}, {0, -1}, {3, 0}, {0, 3}, {MIN, 0}, {0, MAX}}) {
            CHECK.due("see(1, " + two[0] + ", " + two[1] + ", true)", x.see(1, two[0], two[1], true), -1);
        }
        CHECK.due("count(8)", x.count(8), 0);
        CHECK.due("without houses", new StaticDial().see(1, 0, 1, true), -1);
    }

    private static void strikeOfOne() {
        CHECK.part("35: A STRIKE: its number; NONE: no such one");
        StaticDial x = Check.told(THREE);
        for (int told : new int[] {0, -1, 1, MIN, MAX}) {
            CHECK.due("strike(" + told + ") of none", x.strike(told), -1);
        }
        x.note(0, 0, true);
        CHECK.due("strike(1): itself", x.strike(1), -1);
        CHECK.due("strike(0)", x.strike(0), 1);
        CHECK.due("strike(2)", x.strike(2), -1);
        CHECK.due("the same again", x.strike(0), 2);
        CHECK.due("of a strike", x.strike(2), 3);
        CHECK.due("count(8)", x.count(8), 4);
        CHECK.due("known(0)", x.known(0), true);
        CHECK.due("one that isn't known", x.strike(3), 4);
    }

    private static void twentyFourInAll() {
        CHECK.part("33, 34, 35: NONE: there are 24 in all");
        for (int sort = 0; sort < 3; sort++) {
            StaticDial x = Check.told(THREE);
            for (int i = 0; i < 24; i++) {
                int number = i == 0 || sort == 0 ? x.note(0, 1, true) : sort == 1 ? x.see(1, 0, 1, false) : x.strike(i - 1);
                CHECK.due("one more", number, i);
            }
            CHECK.due("note", x.note(0, 5, true), -1);
            CHECK.due("see", x.see(1, 0, 1, true), -1);
            CHECK.due("strike", x.strike(0), -1);
            CHECK.due("strike of the last one", x.strike(23), -1);
            CHECK.due("count(8)", x.count(8), 24);
            CHECK.due("count(9)", x.count(9), 24);
            CHECK.due("known(24)", x.known(24), true);
            CHECK.due("known(25)", x.known(25), false);
            // 23 strikes, each of the one ahead: the first strike doesn't count, if there is an even number of them
            CHECK.due("whose()", x.whose(), sort == 2 ? 7 : 1);
            CHECK.due("nears()", x.nears(), 1023);
            x.known(23);
            CHECK.due("whose() by 23", x.whose(), 1);
        }
    }

    private static void knownByTheFirst() {
        CHECK.part("36: KNOWN by n: the first n");
        StaticDial x = Check.told(THREE);
        CHECK.due("known(0) of none", x.known(0), true);
        x.note(0, 1, true);
        CHECK.due("those to come don't count", x.whose(), 7);
        CHECK.due("count(9)", x.count(9), 0);
        CHECK.due("known(1)", x.known(1), true);
        CHECK.due("whose()", x.whose(), 1);
        x.note(0, 9, true);
        CHECK.due("those to come don't count", x.whose(), 1);
        CHECK.due("count(9)", x.count(9), 1);
        CHECK.due("known(2)", x.known(2), true);
        CHECK.due("whose()", x.whose(), 0);
        CHECK.due("known(0)", x.known(0), true);
        CHECK.due("whose()", x.whose(), 7);
        CHECK.due("ask(0)", x.ask(0), 0);
        CHECK.due("count(8)", x.count(8), 2);
    }

    private static void knownByAll() {
        CHECK.part("36: all at first; -1: by all, also those to come");
        StaticDial x = Check.told(THREE);
        x.note(0, 1, true);
        CHECK.due("all at first", x.whose(), 1);
        CHECK.due("count(9)", x.count(9), 1);
        x.known(0);
        CHECK.due("known(-1)", x.known(-1), true);
        CHECK.due("whose()", x.whose(), 1);
        x.note(0, 9, true);
        CHECK.due("also those to come", x.whose(), 0);
        CHECK.due("count(9)", x.count(9), 2);
        CHECK.due("known(-1) of none", new StaticDial().known(-1), true);
        x.known(1);
        x.text(0);
        x.note(0, 9, true);
        x.note(0, 9, true);
        CHECK.due("behind a text all are", x.count(9), 2);
    }

    private static void knownIsRefused() {
        CHECK.part("36: false: no such n");
        StaticDial x = Check.told(THREE);
        x.note(0, 1, true);
        x.note(0, 9, true);
        x.known(1);
        for (int n : new int[] {-2, 3, 24, 25, MIN, MAX}) {
            CHECK.due("known(" + n + ")", x.known(n), false);
            CHECK.due("it stays as it was", x.count(9), 1);
        }
        CHECK.due("known(2)", x.known(2), true);
        CHECK.due("known(1) of none", new StaticDial().known(1), false);
    }

    private static void strikesOfStrikes() {
        CHECK.part("the first n that aren't STRUCK by one of these (a STRIKE may be STRUCK: then it doesn't count)");
        StaticDial x = Check.told(THREE);
        x.note(0, 1, true);
        int[] whose = {7, 1, 7, 1, 7, 1, 7};
        for (int i = 0; i < whose.length; i++) {
            x.strike(i);
            CHECK.due("whose() with " + (i + 1) + " strikes", x.whose(), whose[i]);
        }
        // asked from the last one on: 2 strikes 1, which would have struck 0, but 3 strikes 2 and 4 strikes 3
        x = Check.told(THREE);
        x.note(0, 1, true);
        x.strike(0);
        x.strike(1);
        x.strike(2);
        x.strike(3);
        CHECK.due("whose()", x.whose(), 1);
        // one of two strikes of the same is enough
        x = Check.told(THREE);
        x.note(0, 1, true);
        x.strike(0);
        x.strike(0);
        x.strike(1);
        CHECK.due("whose()", x.whose(), 7);
        x.strike(2);
        CHECK.due("whose()", x.whose(), 1);
    }

    private static void strikesThatArentKnown() {
        CHECK.part("STRUCK by one of these: of the first n");
        StaticDial x = Check.told(THREE);
        x.note(0, 1, true);
        x.note(0, 0, true);
        x.strike(1);
        x.strike(0);
        x.strike(3);
        int[] whose = {7, 1, 0, 1, 7, 1};
        for (int n = 0; n <= 5; n++) {
            x.known(n);
            CHECK.due("whose() by " + n, x.whose(), whose[n]);
        }
    }

    private static void nearsByNothing() {
        CHECK.part("37: NEARS: 0 .. 9 (bits)");
        CHECK.due("without houses", new StaticDial().nears(), 1023);
        StaticDial x = Check.told("house a 1 0;house b 1 0;near 20;");
        CHECK.due("without sights", x.nears(), 1023);
        x.note(0, 5, true);
        CHECK.due("notes are no sights", x.nears(), 1023);
        x.see(1, 0, 1, true);
        CHECK.due("never", x.nears(), 0);
        x.strike(1);
        CHECK.due("struck", x.nears(), 1023);
    }

    private static void nearsFromNothingToNine() {
        CHECK.part("37: 0 .. 9 in place of near");
        for (int far = 0; far <= 11; far++) {
            StaticDial x = Check.told("house a 1 0;house b " + (1 + far) + " 0;near 20;often 1;sound a 0 1;");
            x.see(1, 1, 0, true);
            CHECK.due("knew at " + far, x.nears(), 1023 & -1 << far);
            x.strike(0);
            x.see(1, 1, 0, false);
            CHECK.due("didn't at " + far, x.nears(), 1023 & (1 << far) - 1);
            CHECK.due("near is as told", x.house(1, 2), 1);
            CHECK.due("near is as told", x.busiest(0, 1), 2);
        }
    }

    private static void nearsBehindSoManyHours() {
        CHECK.part("37: behind so many HOURS 1 .. 60");
        String two = "house a 1 0;house b 1 0;often 1;sound a ";
        dueKnew(two + "0 1;", 1, true);
        dueKnew(two + "1 1;", 1, false);
        dueKnew(two + "1 1;", 2, true);
        dueKnew(two + "59 1;", 60, true);
        dueKnew(two + "59 1;", 59, false);
        dueKnew(two + "60 1;", 60, false);
    }

    private static void dueKnew(String text, int hours, boolean knew) {
        StaticDial x = Check.told(text);
        x.see(hours, 1, 0, true);
        CHECK.due("knew behind " + hours + " of " + text, x.nears(), knew ? 1023 : 0);
        x.strike(0);
        x.see(hours, 1, 0, false);
        CHECK.due("didn't behind " + hours + " of " + text, x.nears(), knew ? 0 : 1023);
    }

    private static void nearsAsItGoes() {
        CHECK.part("37: as it goes: all fade, if fade is 50 at least");
        String two = "house a 1 0;house b 3 2;often 1;sound a 1 1;seed 5;fade ";
        int[] fades = {0, 49, 50, 100};
        int[] nears = {1023, 1023, 1022, 1022};
        for (int i = 0; i < fades.length; i++) {
            StaticDial x = Check.told(two + fades[i] + ";");
            x.see(2, 1, 0, true);
            CHECK.due("fade " + fades[i], x.nears(), nears[i]);
        }
    }

    private static void nearsFromTheTextOn() {
        CHECK.part("37: from the TEXT on, nothing done by call");
        StaticDial x = Check.told("house a 1 0;house b 3 0;often 1;sound a 2 1;");
        x.see(3, 1, 0, true);
        CHECK.due("nears()", x.nears(), 1020);
        x.turn(1, 50);
        x.make(1, 1);
        CHECK.due("behind a turn", x.nears(), 1020);
        x.go(90);
        CHECK.due("behind hours", x.nears(), 1020);
        x.keep();
        x.back();
        CHECK.due("behind an image", x.nears(), 1020);
        CHECK.due("the hour stays", x.count(4), 90);
        CHECK.due("the dial stays", x.house(1, 0), 50);
    }

    private static void nearsByAll() {
        CHECK.part("37: by which all KNOWN SIGHTS are so");
        StaticDial x = Check.told("house a 1 0;house b 4 0;house c 8 0;often 1;sound a 0 1;sound b 9 1;");
        x.see(1, 1, 0, true);
        x.see(1, 2, 0, false);
        x.see(60, 2, 1, true);
        int[] nears = {1023, 1023 - 7, 127 - 7, 127 - 15};
        for (int n = 0; n <= 3; n++) {
            x.known(n);
            CHECK.due("nears() by " + n, x.nears(), nears[n]);
        }
        x.see(9, 2, 1, true);
        CHECK.due("one to come", x.nears(), 127 - 15);
        x.known(-1);
        CHECK.due("not yet behind 9", x.nears(), 0);
    }
}
