/** All that an object can be asked, as one String; asking uses it up: what is undone, gone to, gone back to. */
final class Trace {
    private final StaticDial dial;
    private final StringBuilder told = new StringBuilder();

    private Trace(StaticDial dial) {
        this.dial = dial;
    }

    static String of(StaticDial dial) {
        Trace trace = new Trace(dial);
        trace.say("tape", dial.feed(0, 0, 0, 0, 0));
        trace.say("fault", dial.fault(0), dial.fault(1));
        return trace.all();
    }

    /** Without the TAPE and the latest FAULT, which a TEXT that isn't taken changes. */
    static String butTape(StaticDial dial) {
        return new Trace(dial).all();
    }

    private String all() {
        state();
        say("known", dial.whose(), dial.nears(), dial.ask(0), dial.ask(1));
        for (int left = dial.undo(); left != -1; left = dial.undo()) {
            say("undone", left, dial.count(5), dial.count(6), dial.count(7));
            dials();
        }
        say("go", dial.go(2));
        state();
        say("back", dial.back());
        state();
        say("go", dial.go(2));
        state();
        return told.toString();
    }

    private void say(String what, int... answers) {
        told.append(what);
        for (int answer : answers) {
            told.append(' ').append(answer);
        }
        told.append('\n');
    }

    private void dials() {
        for (int i = 0; i < dial.count(0); i++) {
            say("dial", dial.house(i, 0));
        }
    }

    private void state() {
        for (int what = 0; what <= 10; what++) {
            say("count " + what, dial.count(what));
        }
        int houses = dial.count(0);
        for (int i = 0; i < houses; i++) {
            say("house " + i, dial.house(i, 0), dial.house(i, 1), dial.house(i, 2), dial.house(i, 3), dial.house(i, 4),
                dial.house(i, 5), dial.house(i, 6));
            for (int k = 0; k < houses; k++) {
                say("heard " + k, dial.heard(i, k));
            }
        }
    }
}
