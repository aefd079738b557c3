import java.nio.ByteBuffer;
import java.nio.charset.StandardCharsets;
import java.util.Arrays;

/** Counts and prints the answers that are not as due; tells texts. */
final class Check {
    interface Made {
        StaticDial again();
    }

    interface Call {
        long on(StaticDial dial);
    }

    private int wrong;
    private String part = "";

    void part(String name) {
        part = name;
    }

    void due(String call, long got, long want) {
        if (got != want) {
            wrong++;
            System.out.println(part + ": " + call + " answered " + got + ", due is " + want);
        }
    }

    void due(String call, boolean got, boolean want) {
        due(call, got ? 1 : 0, want ? 1 : 0);
    }

    /** Feeds a text, with blanks behind it, and takes it: what text() answers. */
    static int tell(StaticDial dial, String text) {
        byte[] bytes = text.getBytes(StandardCharsets.ISO_8859_1);
        ByteBuffer numbers = ByteBuffer.wrap(Arrays.copyOf(bytes, (bytes.length + 19) / 20 * 20));
        while (numbers.hasRemaining()) {
            dial.feed(numbers.getInt(), numbers.getInt(), numbers.getInt(), numbers.getInt(), numbers.getInt());
        }
        return dial.text(bytes.length);
    }

    static StaticDial told(String text) {
        StaticDial dial = new StaticDial();
        int lines = tell(dial, text);
        if (lines < 0) {
            throw new IllegalStateException("fault " + dial.fault(0) + " at " + dial.fault(1) + " of " + text);
        }
        return dial;
    }

    void fault(String text, int fault, int place) {
        StaticDial dial = new StaticDial();
        int lines = tell(dial, text);
        due("text of " + text, lines < 0 ? -1 : 0, fault == 0 ? 0 : -1);
        due("fault(0) of " + text, dial.fault(0), fault);
        due("fault(1) of " + text, dial.fault(1), place);
    }

    void due(String call, String got, String want) {
        due(call + ": " + got + " for " + want, got.equals(want), true);
    }

    /** A call that is refused, or that only asks: all is as if it hadn't been made. */
    void leavesAll(String name, Made made, Call call, long want) {
        StaticDial called = made.again();
        due(name, call.on(called), want);
        due(name + " leaves all as it is", Trace.of(called).equals(Trace.of(made.again())), true);
    }

    void end() {
        System.out.println(wrong == 0 ? "all answers are as due" : wrong + " answers are not as due");
        if (wrong != 0) {
            System.exit(1);
        }
    }
}
