/** Promises 38 to 43, and of "Terms" what can be undone and the IMAGE: a test for each sentence that names a boundary. */
public final class BoundaryBackTest {
    private static final Check CHECK = new Check();
    private static final int MIN = Integer.MIN_VALUE;
    private static final int MAX = Integer.MAX_VALUE;
    private static final String THREE = "house a 10 3;house b 12 3;house c 40 9;sound a 0 1;sound b 3 2;turn c 4 50;"
        + "often 1;fade 40;seed 7;";

    public static void main(String[] args) {
        chanceOfTen();
        chanceOfSeeds();
        chanceOfHours();
        chanceWithoutNumbers();
        chanceIsRefused();
        triedByHours();
        triedNothingFades();
        triedNothingDrifts();
        triedWithoutASound();
        triedWithNewValves();
        triedWithoutTurns();
        triedLeavesNothingBehind();
        triedIsRefused();
        undoTheLatestFirst();
        undoTwenty();
        undoIfNoHourWentBy();
        undoNone();
        refusedCallsArentUndone();
        keepInPlaceOfOneAhead();
        backToAll();
        backButNotes();
        backNothingToUndo();
        backWithoutAnImage();
        countOfANewObject();
        countOfAFullText();
        countIsRefused();
        fiveHundredAndTwelveCalls();
        CHECK.end();
    }

    private static long next(long number) {
        return (number * 1103515245L + 12345L) % 2147483648L;
    }

    /** How many of ten times a house of gain 1 hasn't faded behind so many hours, with two houses in all. */
    private static int unfaded(long seed, int fade, int hours) {
        long number = seed;
        int times = 0;
        for (int i = 0; i < 10; i++) {
            boolean fades = false;
            for (int hour = 0; hour <= hours; hour++) {
                number = next(number);
                fades |= hour < hours && number / 65536 % 100 < fade;
                number = next(number);
            }
            times += fades ? 0 : 1;
        }
        return times;
    }

    private static String faint(int fade, int hour) {
        return "house a 10 1;house b 14 0;often 1;fade " + fade + ";sound b " + hour + " 1;";
    }

    private static void chanceOfTen() {
        CHECK.part("38: In how many of ten times drawn");
        int least = 10;
        int most = 0;
        for (int seed = 0; seed < 40; seed++) {
            for (int fade : new int[] {1, 30, 50, 70, 99}) {
                int times = Check.told(faint(fade, 1)).chance(seed, 2, 0, 1);
                CHECK.due("chance(" + seed + ", 2, 0, 1) by " + fade, times, unfaded(seed, fade, 1));
                least = Math.min(least, times);
                most = Math.max(most, times);
            }
        }
        CHECK.due("none of ten", least, 0);
        CHECK.due("ten of ten", most, 10);
    }

    private static void chanceOfSeeds() {
        CHECK.part("38: numbers from a seed 0 .. 2147483647 on, one behind another");
        for (int seed : new int[] {0, 1, 65535, 99999, 100000, 1073741823, 1073741824, MAX - 1, MAX}) {
            StaticDial x = Check.told(faint(50, 2));
            CHECK.due("chance(" + seed + ", 3, 0, 1)", x.chance(seed, 3, 0, 1), unfaded(seed, 50, 2));
            CHECK.due("the same again", x.chance(seed, 3, 0, 1), unfaded(seed, 50, 2));
        }
    }

    private static void chanceOfHours() {
        CHECK.part("38: n 1 .. 99 HOURS from now");
        String sure = "house a 10 1;house b 14 0;often 1;fade 0;sound b ";
        CHECK.due("1", Check.told(sure + "0 1;").chance(5, 1, 0, 1), 10);
        CHECK.due("1 is not enough", Check.told(sure + "1 1;").chance(5, 1, 0, 1), 0);
        CHECK.due("99", Check.told(sure + "98 1;").chance(5, 99, 0, 1), 10);
        CHECK.due("99 is not enough", Check.told(sure + "99 1;").chance(5, 99, 0, 1), 0);
        StaticDial x = Check.told(sure + "99 1;");
        x.go(1);
        CHECK.due("from now", x.chance(5, 99, 0, 1), 10);
        CHECK.due("from now", x.chance(5, 98, 0, 1), 0);
        x.turn(1, 10);
        x.make(1, 1);
        CHECK.due("it does now", x.chance(5, 1, 0, 1), 10);
    }

    private static void chanceWithoutNumbers() {
        CHECK.part("38: no number, if fade is 0 or 100");
        for (int seed : new int[] {0, 1, MAX}) {
            CHECK.due("fade 0", Check.told(faint(0, 9)).chance(seed, 10, 0, 1), 10);
            CHECK.due("fade 100", Check.told(faint(100, 1)).chance(seed, 10, 0, 1), 0);
            CHECK.due("fade 100, at once", Check.told(faint(100, 0)).chance(seed, 10, 0, 1), 10);
        }
    }

    private static void chanceIsRefused() {
        CHECK.part("38: NONE: no such ones, alike");
        StaticDial x = Check.told(faint(50, 0));
        CHECK.due("chance(0, 1, 0, 1)", x.chance(0, 1, 0, 1), 10);
        CHECK.due("chance(-1, 1, 0, 1)", x.chance(-1, 1, 0, 1), -1);
        CHECK.due("chance(min, 1, 0, 1)", x.chance(MIN, 1, 0, 1), -1);
        for (int n : new int[] {0, -1, 100, MIN, MAX}) {
            CHECK.due("chance(0, " + n + ", 0, 1)", x.chance(0, n, 0, 1), -1);
        }
        for (int[] two : new int[][] {{0, 0}, {1, 1}, {-1, 0}, {0, -1}, {2, 0}, {0, 2}, {MIN, 0}, {0, MAX}}) {
            CHECK.due("chance of " + two[0] + ", " + two[1], x.chance(0, 1, two[0], two[1]), -1);
        }
        CHECK.due("without houses", new StaticDial().chance(0, 1, 0, 1), -1);
    }

    private static void triedByHours() {
        CHECK.part("39: TRIED (n 0 .. 99): how many more pairs KNOW");
        StaticDial x = Check.told("house a 10 0;house b 10 0;often 1;sound a 0 1;sound b 98 1;sound b 99 1;");
        for (int what : new int[] {0, 1, 3, 4}) {
            CHECK.due("tried(" + what + ", 0, 0)", x.tried(what, 0, 0), 0);
            CHECK.due("tried(" + what + ", 0, 1)", x.tried(what, 0, 1), 1);
            CHECK.due("tried(" + what + ", 0, 98)", x.tried(what, 0, 98), 1);
            CHECK.due("tried(" + what + ", 0, 99)", x.tried(what, 0, 99), 2);
            CHECK.due("without houses", new StaticDial().tried(what, 0, 99), 0);
        }
        CHECK.due("tried(2, 0, 99)", x.tried(2, 0, 99), 1);
        x.make(0, 1);
        CHECK.due("one more", x.tried(0, 0, 99), 1);
        x.make(1, 1);
        CHECK.due("none more", x.tried(0, 0, 99), 0);
    }

    private static void triedNothingFades() {
        CHECK.part("39: 0 nothing fades");
        StaticDial x = Check.told("house a 10 0;house b 14 1;often 1;sound a 1 1;fade 50;");
        CHECK.due("as it goes", x.ahead(2, 0, 0), 0);
        CHECK.due("tried(0, 0, 2)", x.tried(0, 0, 2), 1);
        x = Check.told("house a 10 0;house b 14 1;often 1;sound a 1 1;fade 100;");
        CHECK.due("fade 100", x.tried(0, 0, 2), 1);
        CHECK.due("as it goes again", x.ahead(2, 0, 0), 0);
        // it still drifts and turns
        CHECK.due("drift", Check.told("house a 10 0;house b 14 1;often 1;sound a 1 1;law drift gain;").tried(0, 0, 2), 0);
        CHECK.due("turn", Check.told("house a 10 0;house b 14 1;often 1;sound a 1 1;turn b 0 50;").tried(0, 0, 2), 0);
    }

    private static void triedNothingDrifts() {
        CHECK.part("39: 1 nothing drifts");
        StaticDial x = Check.told("house a 10 0;house b 13 0;often 1;sound a 1 1;law drift dial > 12;");
        CHECK.due("as it goes", x.ahead(2, 0, 0), 0);
        CHECK.due("tried(1, 0, 2)", x.tried(1, 0, 2), 1);
        CHECK.due("as it goes again", x.ahead(2, 0, 0), 0);
        CHECK.due("fade", Check.told("house a 10 0;house b 14 1;often 1;sound a 1 1;fade 50;").tried(1, 0, 2), 0);
        CHECK.due("turn", Check.told("house a 10 0;house b 14 1;often 1;sound a 1 1;turn b 0 50;").tried(1, 0, 2), 0);
    }

    private static void triedWithoutASound() {
        CHECK.part("39: 2 HOUSE i makes no SOUND");
        StaticDial x = Check.told("house a 10 0;house b 10 0;house c 10 0;often 1;sound a 0 1;sound a 1 1;sound b 1 1;");
        int[] more = {2, 2, 4};
        for (int i = 0; i < 3; i++) {
            CHECK.due("tried(2, " + i + ", 2)", x.tried(2, i, 2), more[i]);
        }
        CHECK.due("as it goes again", x.ahead(2, 0, 0), 4);
        for (int i : new int[] {-1, 3, MIN, MAX}) {
            CHECK.due("tried(2, " + i + ", 2)", x.tried(2, i, 2), -1);
        }
        CHECK.due("without houses", new StaticDial().tried(2, 0, 1), -1);
    }

    private static void triedWithNewValves() {
        CHECK.part("39: 3 GAIN of all is 9 now");
        dueStrong(12, 0, 0, 1);
        dueStrong(13, 0, 0, 0);
        // it fades from 9 on as it goes
        dueStrong(12, 1, 49, 1);
        dueStrong(12, 1, 50, 0);
        dueStrong(11, 1, 50, 1);
        // each of them, the first and the last of six, too
        String six = "house a 0 0;house b 12 0;house c 24 0;house d 36 0;house e 48 0;house f 60 0;often 1;";
        CHECK.due("the first one hears", Check.told(six + "sound b 0 1;").tried(3, 0, 1), 2);
        CHECK.due("the last one hears", Check.told(six + "sound e 0 1;").tried(3, 0, 1), 2);
        CHECK.due("the first one is heard", Check.told(six + "sound a 0 1;").tried(3, 0, 1), 1);
        StaticDial x = Check.told("house a 10 0;house b 20 0;");
        x.tried(3, 0, 9);
        CHECK.due("only tried", x.count(7), 0);
    }

    private static void dueStrong(int far, int hour, int fade, int more) {
        StaticDial x = Check.told("house a 10 0;house b " + (10 + far) + " 0;often 1;sound a " + hour + " 1;fade " + fade
            + ";");
        CHECK.due("at " + far + ", hour " + hour + ", fade " + fade, x.tried(3, 0, hour + 1), more);
        CHECK.due("as it goes", x.ahead(hour + 1, 0, 0), 0);
    }

    private static void triedWithoutTurns() {
        CHECK.part("39: 4 nobody TURNS");
        StaticDial x = Check.told("house a 10 0;house b 10 0;often 1;sound a 1 1;turn a 0 50;turn b 1 90;");
        CHECK.due("as it goes", x.ahead(2, 0, 0), 0);
        CHECK.due("tried(4, 0, 2)", x.tried(4, 0, 2), 1);
        CHECK.due("as it goes again", x.ahead(2, 0, 0), 0);
        x.turn(1, 70);
        CHECK.due("turns by call have been", x.tried(4, 0, 2), 0);
    }

    private static void triedLeavesNothingBehind() {
        CHECK.part("39: what is tried is only tried");
        String text = "house a 10 1;house b 12 9;often 1;sound a 0 1;turn b 1 60;fade 100;law drift 2;";
        for (int what = 0; what <= 4; what++) {
            StaticDial x = Check.told(text);
            x.tried(what, 0, 5);
            x.go(2);
            CHECK.due("heard(1, 0) behind " + what, x.heard(1, 0), 1);
            CHECK.due("house(1, 0) behind " + what, x.house(1, 0), 62);
            CHECK.due("house(1, 1) behind " + what, x.house(1, 1), 7);
            x = Check.told(text);
            x.tried(what, 0, 5);
            CHECK.due("chance behind " + what, x.chance(0, 1, 1, 0), 10);
            x = Check.told(text);
            x.tried(what, 0, 5);
            CHECK.due("nextHeard behind " + what, x.nextHeard(1, 0), 1);
            x.tried(what, 0, 5);
            CHECK.due("ahead behind " + what, x.ahead(2, 2, 1), 62);
            x.tried(what, 0, 5);
            CHECK.due("first behind " + what, x.first(0), -2);
            x.tried(what, 0, 5);
            CHECK.due("make behind " + what, x.make(0, 1), 2);
        }
        // drawn as told behind a trial, at chance and at go
        StaticDial x = Check.told("house a 10 0;house b 13 0;often 1;sound a 1 1;law drift dial > 12;fade 50;");
        x.tried(1, 0, 2);
        CHECK.due("chance(5, 2, 1, 0)", x.chance(5, 2, 1, 0), 0);
        x.tried(1, 0, 2);
        x.go(2);
        CHECK.due("heard(1, 0)", x.heard(1, 0), 0);
    }

    private static void triedIsRefused() {
        CHECK.part("39: NONE: no such ones (i 0 of all but 2)");
        StaticDial x = Check.told("house a 10 0;house b 10 0;");
        for (int what : new int[] {-1, 5, MIN, MAX}) {
            CHECK.due("tried(" + what + ", 0, 1)", x.tried(what, 0, 1), -1);
        }
        for (int what = 0; what <= 4; what++) {
            for (int n : new int[] {-1, 100, MIN, MAX}) {
                CHECK.due("tried(" + what + ", 0, " + n + ")", x.tried(what, 0, n), -1);
            }
            for (int i : new int[] {-1, 1, MIN, MAX}) {
                boolean isThere = what == 2 && i == 1;
                CHECK.due("tried(" + what + ", " + i + ", 1)", x.tried(what, i, 1), isThere ? 0 : -1);
            }
        }
    }

    private static void undoTheLatestFirst() {
        CHECK.part("40: The latest is undone: how many are left");
        StaticDial x = Check.told(THREE);
        x.go(5);
        int gain = x.house(0, 1);
        CHECK.due("the valve has faded", gain < 3, true);
        x.turn(2, 0);
        x.make(0, 8);
        x.valve(0);
        CHECK.due("count(10)", x.count(10), 3);
        CHECK.due("house(0, 1)", x.house(0, 1), 3);
        CHECK.due("the valve", x.undo(), 2);
        CHECK.due("house(0, 1)", x.house(0, 1), gain);
        CHECK.due("house(1, 6)", x.house(1, 6), 8);
        CHECK.due("heard(1, 0)", x.heard(1, 0), 2);
        CHECK.due("the sound", x.undo(), 1);
        CHECK.due("house(1, 6)", x.house(1, 6), 1);
        CHECK.due("heard(1, 0)", x.heard(1, 0), 1);
        CHECK.due("house(2, 0)", x.house(2, 0), 0);
        CHECK.due("the turn", x.undo(), 0);
        CHECK.due("house(2, 0)", x.house(2, 0), 50);
        CHECK.due("none", x.undo(), -1);
        StaticDial y = Check.told(THREE);
        y.go(5);
        CHECK.due("all is as it was", Trace.of(x), Trace.of(y));
        // what two come to know by a sound is undone with it
        x = Check.told("house a 10 3;house b 12 3;often 1;");
        x.make(0, 1);
        CHECK.due("count(5)", x.count(5), 1);
        x.undo();
        CHECK.due("count(5)", x.count(5), 0);
        CHECK.due("count(6)", x.count(6), 0);
    }

    private static void undoTwenty() {
        CHECK.part("20 at most");
        for (int calls : new int[] {19, 20, 21, 45}) {
            StaticDial x = Check.told("house a 99 3;");
            for (int i = 0; i < calls; i++) {
                x.turn(0, i);
            }
            int left = Math.min(20, calls);
            CHECK.due("count(10) behind " + calls, x.count(10), left);
            while (left > 0) {
                left--;
                CHECK.due("undo() behind " + calls, x.undo(), left);
            }
            CHECK.due("undo() behind " + calls, x.undo(), -1);
            CHECK.due("house(0, 0) behind " + calls, x.house(0, 0), calls <= 20 ? 99 : calls - 21);
        }
        // new ones behind some that were undone
        StaticDial x = Check.told("house a 99 3;");
        for (int i = 0; i < 30; i++) {
            x.turn(0, i);
        }
        for (int i = 0; i < 5; i++) {
            x.undo();
        }
        CHECK.due("house(0, 0)", x.house(0, 0), 24);
        for (int i = 50; i < 58; i++) {
            x.turn(0, i);
        }
        CHECK.due("count(10)", x.count(10), 20);
        for (int i = 0; i < 20; i++) {
            x.undo();
        }
        CHECK.due("house(0, 0)", x.house(0, 0), 12);
        CHECK.due("undo()", x.undo(), -1);
    }

    private static void undoIfNoHourWentBy() {
        CHECK.part("if no HOUR went by since");
        StaticDial x = Check.told(THREE);
        x.turn(0, 50);
        x.go(0);
        CHECK.due("none went by", x.count(10), 1);
        x.go(100);
        x.go(-1);
        CHECK.due("none went by", x.count(10), 1);
        x.go(1);
        CHECK.due("one went by", x.count(10), 0);
        CHECK.due("undo()", x.undo(), -1);
        CHECK.due("house(0, 0)", x.house(0, 0), 50);
        x.turn(0, 60);
        CHECK.due("one since", x.count(10), 1);
        CHECK.due("undo()", x.undo(), 0);
        CHECK.due("house(0, 0)", x.house(0, 0), 50);
        // at the last hour
        x = Check.told("house a 10 0;");
        for (int i = 0; i < 90; i++) {
            x.go(99);
        }
        x.go(90);
        x.turn(0, 50);
        CHECK.due("go(1)", x.go(1), -1);
        CHECK.due("undo()", x.undo(), 0);
        // what only asks lets none go by
        x.turn(0, 50);
        x.ahead(99, 0, 0);
        x.first(0);
        x.tried(0, 0, 99);
        x.nears();
        CHECK.due("undo()", x.undo(), 0);
    }

    private static void undoNone() {
        CHECK.part("40: NONE: none");
        CHECK.due("of a new object", new StaticDial().undo(), -1);
        StaticDial x = Check.told(THREE);
        CHECK.due("of a new text", x.undo(), -1);
        x.note(0, 0, true);
        x.known(0);
        x.keep();
        CHECK.due("notes and images aren't undone", x.undo(), -1);
        x.turn(0, 50);
        Check.tell(x, "near");
        CHECK.due("a text with a fault", x.count(10), 1);
        Check.tell(x, THREE);
        CHECK.due("a text", x.undo(), -1);
    }

    private static void refusedCallsArentUndone() {
        CHECK.part("40: a call that is refused can't be undone");
        StaticDial x = Check.told(THREE);
        x.turn(0, 10);
        x.turn(0, 100);
        x.turn(3, 5);
        x.make(0, 0);
        x.make(3, 1);
        x.valve(0);
        x.valve(3);
        CHECK.due("count(10)", x.count(10), 0);
        x.make(2, 1);
        CHECK.due("one that nobody heard can", x.count(10), 1);
    }

    private static void keepInPlaceOfOneAhead() {
        CHECK.part("41: An IMAGE is kept (in place of one ahead): which HOUR it is");
        StaticDial x = Check.told(THREE);
        CHECK.due("keep()", x.keep(), 0);
        x.go(3);
        x.turn(0, 50);
        CHECK.due("keep()", x.keep(), 3);
        CHECK.due("what can be undone stays", x.count(10), 1);
        x.go(2);
        CHECK.due("back()", x.back(), 3);
        CHECK.due("house(0, 0)", x.house(0, 0), 50);
        CHECK.due("the same again", x.back(), 3);
        CHECK.due("of a new object", new StaticDial().keep(), 0);
    }

    private static void backToAll() {
        CHECK.part("42: All is as in the IMAGE: which HOUR it is");
        StaticDial x = Check.told(THREE);
        x.go(2);
        x.make(1, 3);
        x.keep();
        x.turn(0, 90);
        x.make(0, 4);
        x.go(9);
        x.valve(0);
        CHECK.due("back()", x.back(), 2);
        StaticDial y = Check.told(THREE);
        y.go(2);
        y.make(1, 3);
        y.keep();
        y.back();
        CHECK.due("all", Trace.of(x), Trace.of(y));
        // the image isn't changed by what comes behind it
        x = Check.told(THREE);
        x.keep();
        for (int i = 0; i < 3; i++) {
            x.make(0, 5);
            x.go(4);
            CHECK.due("back()", x.back(), 0);
            CHECK.due("count(6)", x.count(6), 0);
            CHECK.due("house(1, 6)", x.house(1, 6), 0);
            CHECK.due("count(7)", x.count(7), 15);
        }
        // the numbers go on from where they were
        x.go(5);
        int gains = x.count(7);
        x.back();
        x.go(5);
        CHECK.due("count(7)", x.count(7), gains);
        x.back();
        x.go(2);
        x.keep();
        x.go(3);
        CHECK.due("count(7)", x.count(7), gains);
        x.back();
        x.go(3);
        CHECK.due("count(7)", x.count(7), gains);
    }

    private static void backButNotes() {
        CHECK.part("42: but NOTES and SIGHTS");
        StaticDial x = Check.told(THREE);
        x.note(0, 1, true);
        x.keep();
        x.note(0, 2, true);
        x.see(1, 0, 1, true);
        x.strike(0);
        x.back();
        CHECK.due("count(8)", x.count(8), 4);
        CHECK.due("whose()", x.whose(), 0);
        CHECK.due("the next number", x.note(0, 0, true), 4);
        CHECK.due("count(9)", x.count(9), 5);
    }

    private static void backNothingToUndo() {
        CHECK.part("42: nothing to undo then");
        StaticDial x = Check.told(THREE);
        x.turn(0, 50);
        x.keep();
        x.turn(0, 60);
        x.back();
        CHECK.due("count(10)", x.count(10), 0);
        CHECK.due("undo()", x.undo(), -1);
        CHECK.due("house(0, 0)", x.house(0, 0), 50);
        x.turn(0, 70);
        CHECK.due("undo()", x.undo(), 0);
        CHECK.due("house(0, 0)", x.house(0, 0), 50);
    }

    private static void backWithoutAnImage() {
        CHECK.part("42: NONE: there is none");
        CHECK.due("of a new object", new StaticDial().back(), -1);
        StaticDial x = Check.told(THREE);
        x.go(2);
        x.turn(0, 50);
        CHECK.due("of a new text", x.back(), -1);
        CHECK.due("what can be undone stays", x.count(10), 1);
        CHECK.due("house(0, 0)", x.house(0, 0), 50);
        x.keep();
        CHECK.due("a text with a fault", Check.tell(x, "near"), -1);
        CHECK.due("it stays", x.back(), 2);
        CHECK.due("text(-1)", x.text(-1), -2);
        CHECK.due("it stays", x.back(), 2);
        CHECK.due("a text", x.text(0), 0);
        CHECK.due("none", x.back(), -1);
    }

    private static void dueCounts(StaticDial x, int... want) {
        for (int what = 0; what <= 10; what++) {
            CHECK.due("count(" + what + ")", x.count(what), want[what]);
        }
    }

    private static void countOfANewObject() {
        CHECK.part("43: of nothing");
        dueCounts(new StaticDial(), 0, 0, 0, 0, 0, 0, 0, 0, 0, 0, 0);
        dueCounts(Check.told("near 1;often 1;fade 1;seed 1;"), 0, 0, 0, 0, 0, 0, 0, 0, 0, 0, 0);
    }

    private static void countOfAFullText() {
        CHECK.part("43: of a full text");
        StringBuilder text = new StringBuilder();
        for (char c = 'a'; c <= 'f'; c++) {
            text.append("house ").append(c).append(" 1 9;");
        }
        text.append("turn a 1 1;".repeat(10));
        for (int i = 0; i < 12; i++) {
            text.append("sound b ").append(i).append(" 1;");
        }
        text.append("law learn ").append("not ".repeat(63)).append("0;");
        StaticDial x = Check.told(text.toString());
        dueCounts(x, 6, 10, 12, 64, 0, 0, 0, 54, 0, 0, 0);
        x.go(12);
        dueCounts(x, 6, 10, 12, 64, 12, 5, 60, 54, 0, 0, 0);
        for (int i = 0; i < 6; i++) {
            x.make(i, 1);
        }
        for (int i = 0; i < 30; i++) {
            x.note(0, 0, true);
            x.turn(0, 50 + i);
        }
        dueCounts(x, 6, 10, 12, 64, 12, 30, 90, 54, 24, 24, 20);
        x.known(0);
        CHECK.due("count(9)", x.count(9), 0);
    }

    private static void countIsRefused() {
        CHECK.part("43: NONE for another what");
        StaticDial x = Check.told(THREE);
        for (int what : new int[] {-1, 11, MIN, MAX}) {
            CHECK.due("count(" + what + ")", x.count(what), -1);
            CHECK.due("count(" + what + ")", new StaticDial().count(what), -1);
        }
    }

    private static void fiveHundredAndTwelveCalls() {
        CHECK.part("An object is used for at most 512 calls");
        StaticDial x = new StaticDial();
        x.feed(0x686f7573, 0x65206120, 0x31302030, 0x3b686f75, 0x73652062);
        x.feed(0x20313120, 0x303b2020, 0x20202020, 0x20202020, 0x20202020);
        CHECK.due("text(40)", x.text(40), 2);
        for (int call = 4; call <= 510; call++) {
            CHECK.due("make(0, 1), call " + call, x.make(0, 1), 2);
        }
        CHECK.due("call 511", x.heard(1, 0), 507);
        CHECK.due("call 512", x.count(10), 20);
    }
}
