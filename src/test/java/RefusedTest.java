import java.util.NoSuchElementException;

/** Each call that a promise refuses: its answer, just beyond each bound and far beyond it, and that all stays. */
public final class RefusedTest {
    private static final Check CHECK = new Check();
    private static final int MIN = Integer.MIN_VALUE;
    private static final int MAX = Integer.MAX_VALUE;
    private static final int INDEX = -100;
    private static final int ELEMENT = -200;
    private static final int[] NO_HOUSES = {-1, 3, 6, MIN, MAX};

    /** Of three houses, at hour 2, with an image, notes, two calls that can be undone and twenty bytes on the tape. */
    private static StaticDial busy() {
        StaticDial x = Check.told("house a 10 3;house b 12 3;house c 14 3;sound a 0 1;sound b 3 2;turn c 4 50;"
            + "often 1;fade 40;seed 7;law drift dial > 13;");
        x.go(2);
        x.note(0, 1, true);
        x.see(1, 1, 0, true);
        x.strike(0);
        x.known(2);
        x.keep();
        x.turn(0, 11);
        x.make(1, 5);
        x.feed(0x6e656172, 0x20353b20, 0x20202020, 0x20202020, 0x20202020);
        return x;
    }

    private static StaticDial lawful() {
        StaticDial x = Check.told("house a 10 3;house b 12 3;house c 14 3;law reach 5;law learn 1;law drift 2;");
        x.make(0, 1);
        return x;
    }

    private static Check.Made made = RefusedTest::busy;

    private static void refused(String name, Check.Call call, long want) {
        CHECK.leavesAll(name, made, call, want);
    }

    private static void asked(String name, Check.Call call) {
        refused(name, call, call.on(busy()));
    }

    /** A house that isn't there. */
    private static void house(String name, HouseCall call, long want) {
        for (int house : NO_HOUSES) {
            refused(name + " of house " + house, x -> call.on(x, house), want);
        }
    }

    /** Two houses of which one isn't there, or that are alike. */
    private static void two(String name, TwoCall call, long want) {
        for (int house : NO_HOUSES) {
            refused(name + " of " + house + " and 0", x -> call.on(x, house, 0), want);
            refused(name + " of 0 and " + house, x -> call.on(x, 0, house), want);
            refused(name + " of " + house + " twice", x -> call.on(x, house, house), want);
        }
        for (int house = 0; house < 3; house++) {
            int alike = house;
            refused(name + " of " + house + " twice", x -> call.on(x, alike, alike), want);
        }
    }

    /** A number that must be of least .. most. */
    private static void number(String name, HouseCall call, int least, int most, long want) {
        for (int n : new int[] {least - 1, most + 1, MIN, MAX}) {
            refused(name + " by " + n, x -> call.on(x, n), want);
        }
    }

    private interface HouseCall {
        long on(StaticDial x, int house);
    }

    private interface TwoCall {
        long on(StaticDial x, int one, int other);
    }

    public static void main(String[] args) {
        CHECK.part("refused");
        texts();
        ofNow();
        done();
        coming();
        dials();
        reached();
        noted();
        otherwise();
        CHECK.part("only asked");
        questions();
        CHECK.end();
    }

    private static int thrown(StaticDial x, int house, int what) {
        try {
            return x.house(house, what);
        } catch (IndexOutOfBoundsException e) {
            return INDEX;
        } catch (NoSuchElementException e) {
            return ELEMENT;
        }
    }

    private static void texts() {
        for (int n : new int[] {21, 700, 701, MAX, -1, MIN}) {
            refused("text by " + n, x -> x.text(n), -2);
        }
        number("fault", StaticDial::fault, 0, 1, -1);
        for (int letters : new int[] {0, 1, -1, MIN, MAX, 4 << 25, 1 << 25 | 1, 1 << 25 | 1 << 30, 1 << 25 | MIN}) {
            refused("named by " + letters, x -> x.named(letters), -1);
        }
    }

    private static void ofNow() {
        for (int what = 0; what <= 6; what++) {
            int which = what;
            house("house, what " + what, (x, h) -> thrown(x, h, which), INDEX);
        }
        house("house, what 7", (x, h) -> thrown(x, h, 7), INDEX);
        for (int h = 0; h < 3; h++) {
            int house = h;
            number("house " + h + ", what", (x, n) -> thrown(x, house, n), 0, 6, ELEMENT);
        }
        two("heard", StaticDial::heard, -1);
        house("sound", (x, h) -> x.sound(h, 0), -1);
        number("sound, hour", (x, n) -> x.sound(0, n), 0, 99, -1);
        made = RefusedTest::lawful;
        two("law reach", (x, one, other) -> x.law(0, one, other), Long.MIN_VALUE);
        two("law learn", (x, one, other) -> x.law(1, one, other), Long.MIN_VALUE);
        house("law drift", (x, h) -> x.law(2, h, 1), Long.MIN_VALUE);
        number("law, what", (x, n) -> x.law(n, 0, 1), 0, 2, Long.MIN_VALUE);
        made = RefusedTest::busy;
        number("count", StaticDial::count, 0, 10, -1);
    }

    private static void done() {
        house("turn", (x, h) -> x.turn(h, 5) ? 1 : 0, 0);
        number("turn, dial", (x, n) -> x.turn(0, n) ? 1 : 0, 0, 99, 0);
        refused("turn to where it is", x -> x.turn(0, 11) ? 1 : 0, 0);
        house("make", (x, h) -> x.make(h, 1), -1);
        number("make, kind", (x, n) -> x.make(0, n), 1, 9, -1);
        house("valve", StaticDial::valve, -1);
        number("go", StaticDial::go, 0, 99, -1);
        refused("go by none", x -> x.go(0), 2);
    }

    private static void coming() {
        for (int what = 0; what <= 3; what++) {
            int which = what;
            number("ahead, what " + what + ", hours", (x, n) -> x.ahead(n, which, 0), 0, 99, -1);
        }
        number("ahead, what", (x, n) -> x.ahead(1, n, 0), 0, 3, -1);
        house("ahead, dial", (x, h) -> x.ahead(1, 2, h), -1);
        house("ahead, gain", (x, h) -> x.ahead(1, 3, h), -1);
        number("first", StaticDial::first, 0, 1, -1);
        two("nextHeard", StaticDial::nextHeard, -1);
        two("code", StaticDial::code, -1);
    }

    private static void dials() {
        for (int what = 0; what <= 2; what++) {
            int which = what;
            two("secret, what " + what, (x, one, other) -> x.secret(one, other, which), -1);
        }
        number("secret, what", (x, n) -> x.secret(0, 1, n), 0, 2, -1);
        number("spread", StaticDial::spread, 0, 4, -1);
        refused("spread of a fourth of three", x -> x.spread(3), -2);
        number("busiest, gain", (x, n) -> x.busiest(n, 0), 0, 9, -1);
        number("busiest, gain", (x, n) -> x.busiest(n, 1), 0, 9, -1);
        number("busiest, what", (x, n) -> x.busiest(0, n), 0, 1, -1);
        house("hide", StaticDial::hide, -1);
        two("lure", StaticDial::lure, -1);
    }

    private static void reached() {
        house("passed", (x, h) -> x.passed(h, 1), -1);
        house("passed in no steps", (x, h) -> x.passed(h, 0), -1);
        number("passed, steps", (x, n) -> x.passed(0, n), 0, 6, -1);
        house("gossip", (x, h) -> x.gossip(h, 1), -1);
        house("gossip in no steps", (x, h) -> x.gossip(h, 0), -1);
        number("gossip, steps", (x, n) -> x.gossip(0, n), 0, 6, -1);
        two("before, what 0", (x, one, other) -> x.before(one, other, 0), MIN);
        two("before, what 1", (x, one, other) -> x.before(one, other, 1), MIN);
        number("before, what", (x, n) -> x.before(0, 1, n), 0, 1, MIN);
        house("rests", StaticDial::rests, -1);
        house("rest", (x, h) -> x.rest(h, 0), -1);
        house("rest, k below 0", (x, h) -> x.rest(h, -1), -1);
        refused("rest by -1", x -> x.rest(0, -1), -1);
        refused("rest by the least", x -> x.rest(0, MIN), -1);
        refused("rest by the most", x -> x.rest(0, MAX), -2);
    }

    private static void noted() {
        number("ask", StaticDial::ask, 0, 1, -1);
        for (int is = 0; is <= 1; is++) {
            boolean so = is == 1;
            number("note, hour", (x, n) -> x.note(n, 1, so), 0, 99, -1);
            number("note, kind", (x, n) -> x.note(0, n, so), 0, 9, -1);
            two("see", (x, one, other) -> x.see(1, one, other, so), -1);
            number("see, hours", (x, n) -> x.see(n, 0, 1, so), 1, 60, -1);
        }
        number("strike", StaticDial::strike, 0, 2, -1);
        number("known", (x, n) -> x.known(n) ? 1 : 0, -1, 3, 0);
    }

    private static void otherwise() {
        two("chance", (x, one, other) -> x.chance(5, 1, one, other), -1);
        number("chance, hours", (x, n) -> x.chance(5, n, 0, 1), 1, 99, -1);
        refused("chance, seed -1", x -> x.chance(-1, 1, 0, 1), -1);
        refused("chance, the least seed", x -> x.chance(MIN, 1, 0, 1), -1);
        for (int what = 0; what <= 4; what++) {
            int which = what;
            number("tried " + what + ", hours", (x, n) -> x.tried(which, 0, n), 0, 99, -1);
            if (what == 2) {
                house("tried 2", (x, h) -> x.tried(2, h, 1), -1);
            } else {
                number("tried " + what + ", i", (x, n) -> x.tried(which, n, 1), 0, 0, -1);
                refused("tried " + what + " of house 2", x -> x.tried(which, 2, 1), -1);
            }
        }
        number("tried, what", (x, n) -> x.tried(n, 0, 1), 0, 4, -1);
    }

    private static void questions() {
        asked("named", x -> x.named(2 << 25));
        for (int what = 0; what <= 6; what++) {
            int which = what;
            asked("house", x -> x.house(1, which));
        }
        asked("heard", x -> x.heard(1, 0));
        asked("sound", x -> x.sound(1, 3));
        asked("law", x -> x.law(2, 1, 0));
        for (int what = 0; what <= 3; what++) {
            int which = what;
            asked("ahead", x -> x.ahead(99, which, 1));
        }
        asked("first", x -> x.first(0));
        asked("first", x -> x.first(1));
        for (int what = 0; what <= 2; what++) {
            int which = what;
            asked("secret", x -> x.secret(0, 2, which));
        }
        for (int what = 0; what <= 4; what++) {
            int which = what;
            asked("spread", x -> x.spread(which));
            asked("tried", x -> x.tried(which, which == 2 ? 1 : 0, 99));
        }
        asked("whose", StaticDial::whose);
        asked("ask", x -> x.ask(0));
        asked("passed", x -> x.passed(1, 6));
        asked("before", x -> x.before(0, 1, 0));
        asked("warn", StaticDial::warn);
        asked("busiest", x -> x.busiest(9, 0));
        asked("rests", x -> x.rests(1));
        asked("rest", x -> x.rest(1, 0));
        asked("alone", StaticDial::alone);
        asked("code", x -> x.code(0, 1));
        asked("hide", x -> x.hide(1));
        asked("gossip", x -> x.gossip(1, 6));
        asked("loudest", StaticDial::loudest);
        asked("nextHeard", x -> x.nextHeard(0, 1));
        asked("lure", x -> x.lure(0, 1));
        asked("nears", StaticDial::nears);
        asked("chance", x -> x.chance(MAX, 99, 0, 1));
        asked("count", x -> x.count(5));
    }
}
