import java.math.BigInteger;
import java.util.ArrayList;
import java.util.HashMap;
import java.util.HashSet;
import java.util.List;
import java.util.Map;
import java.util.Set;
import java.util.regex.Matcher;
import java.util.regex.Pattern;

/**
 * The document once more, read slowly: no thought of speed or of room, and another way of doing each thing than
 * StaticDial's, so that a slip in one of both shows.
 */
final class Oracle {
    // ---- expressions as trees ----

    private interface Node {
        /** null: an ERROR. */
        BigInteger value(Map<String, Long> names);
    }

    private static final BigInteger LIMIT = BigInteger.TEN.pow(12);

    private static BigInteger limited(BigInteger v) {
        return v.abs().compareTo(LIMIT) > 0 ? null : v;
    }

    private static BigInteger truth(boolean is) {
        return is ? BigInteger.ONE : BigInteger.ZERO;
    }

    private static Node binary(String sign, Node l, Node r) {
        return names -> {
            BigInteger a = l.value(names);
            BigInteger b = r.value(names);
            if (a == null || b == null) {
                return null;
            }
            return switch (sign) {
                case "or" -> truth(a.signum() != 0 || b.signum() != 0);
                case "and" -> truth(a.signum() != 0 && b.signum() != 0);
                case "<" -> truth(a.compareTo(b) < 0);
                case "<=" -> truth(a.compareTo(b) <= 0);
                case "=" -> truth(a.compareTo(b) == 0);
                case "<>" -> truth(a.compareTo(b) != 0);
                case ">=" -> truth(a.compareTo(b) >= 0);
                case ">" -> truth(a.compareTo(b) > 0);
                case "+" -> limited(a.add(b));
                case "-" -> limited(a.subtract(b));
                case "*" -> limited(a.multiply(b));
                case "/" -> b.signum() == 0 ? null : limited(a.divide(b));
                default -> throw new IllegalStateException(sign);
            };
        };
    }

    // ---- the text ----

    private static final List<String> LANGUAGE = List.of("house", "turn", "sound", "near", "often", "fade", "seed",
        "law", "reach", "learn", "drift", "or", "and", "not", "dial", "gain", "far", "kind", "heard", "knows", "hour");
    private static final List<String> NAMES = List.of("dial", "gain", "far", "kind", "heard", "knows", "hour");
    private static final Pattern TOKEN =
        Pattern.compile("[a-z]+|[0-9]+|<=|<>|>=|[<>=+\\-*/();]");

    static final class Fault extends RuntimeException {
        private static final long serialVersionUID = 1L;

        final int kind;
        final int place;

        Fault(int kind, int place) {
            this.kind = kind;
            this.place = place;
        }
    }

    record House(String name, int dial, int gain) { }

    record Turn(int house, int hour, int dial) { }

    record Sound(int house, int hour, int kind) { }

    static final class Text {
        final List<House> houses = new ArrayList<>();
        final List<Turn> turns = new ArrayList<>();
        final List<Sound> sounds = new ArrayList<>();
        final Map<String, Integer> settings = new HashMap<>();
        final Map<String, Node> laws = new HashMap<>();
        int lines;
        int knots;

        int setting(String name) {
            int without = name.equals("near") ? 3 : name.equals("often") ? 2 : 0;
            return settings.getOrDefault(name, without);
        }

        int index(String name) {
            for (int i = 0; i < houses.size(); i++) {
                if (houses.get(i).name.equals(name)) {
                    return i;
                }
            }
            return -1;
        }

        int kind(int house, int hour) {
            for (Sound s : sounds) {
                if (s.house == house && s.hour == hour) {
                    return s.kind;
                }
            }
            return 0;
        }
    }

    private static final class Parser {
        final String text;
        final Text into = new Text();
        String token = "";
        int place;
        int end;
        int open;

        Parser(String text) {
            this.text = text;
            step();
        }

        void step() {
            int at = end;
            while (at < text.length() && (text.charAt(at) == ' ' || text.charAt(at) == '\n')) {
                at++;
            }
            place = at;
            if (at == text.length()) {
                token = "";
                return;
            }
            Matcher m = TOKEN.matcher(text).region(at, text.length());
            if (!m.lookingAt()) {
                token = "#";
                end = at + 1;
                return;
            }
            token = m.group();
            end = m.end();
            if (token.length() > 6 && Character.isLetter(token.charAt(0))) {
                token = "#";
            }
        }

        boolean is(String... any) {
            return List.of(any).contains(token);
        }

        Fault fault(int kind) {
            return new Fault(kind, place);
        }

        void text() {
            while (!token.isEmpty()) {
                line();
                if (!is(";")) {
                    throw fault(1);
                }
                step();
                into.lines++;
            }
        }

        int number(int least, int most) {
            if (token.isEmpty() || !Character.isDigit(token.charAt(0))) {
                throw fault(1);
            }
            BigInteger v = new BigInteger(token);
            if (v.compareTo(BigInteger.valueOf(least)) < 0 || v.compareTo(BigInteger.valueOf(most)) > 0) {
                throw fault(2);
            }
            return v.intValue();
        }

        int taken(int least, int most) {
            int n = number(least, most);
            step();
            return n;
        }

        String name() {
            if (!token.matches("[a-z]{1,6}") || LANGUAGE.contains(token)) {
                throw fault(1);
            }
            return token;
        }

        int house() {
            int i = into.index(name());
            if (i < 0) {
                throw fault(4);
            }
            step();
            return i;
        }

        void limit(int size, int most) {
            if (size == most) {
                throw fault(2);
            }
        }

        void line() {
            String word = token;
            switch (word) {
                case "house" -> {
                    limit(into.houses.size(), 6);
                    step();
                    String name = name();
                    if (into.index(name) >= 0) {
                        throw fault(3);
                    }
                    step();
                    int dial = taken(0, 99);
                    into.houses.add(new House(name, dial, taken(0, 9)));
                }
                case "turn" -> {
                    limit(into.turns.size(), 10);
                    step();
                    int house = house();
                    int hour = taken(0, 99);
                    into.turns.add(new Turn(house, hour, taken(0, 99)));
                }
                case "sound" -> {
                    limit(into.sounds.size(), 12);
                    step();
                    int house = house();
                    int hour = number(0, 99);
                    if (into.kind(house, hour) != 0) {
                        throw fault(3);
                    }
                    step();
                    into.sounds.add(new Sound(house, hour, taken(1, 9)));
                }
                case "near", "often", "fade", "seed" -> {
                    if (into.settings.containsKey(word)) {
                        throw fault(3);
                    }
                    step();
                    int most = word.equals("near") ? 20 : word.equals("often") ? 9 : word.equals("fade") ? 100 : 99999;
                    into.settings.put(word, taken(word.equals("often") ? 1 : 0, most));
                }
                case "law" -> {
                    step();
                    String law = token;
                    if (!is("reach", "learn", "drift")) {
                        throw fault(1);
                    }
                    if (into.laws.containsKey(law)) {
                        throw fault(3);
                    }
                    step();
                    into.laws.put(law, either());
                }
                default -> throw fault(1);
            }
        }

        String knot() {
            limit(into.knots, 64);
            into.knots++;
            String was = token;
            step();
            return was;
        }

        Node either() {
            Node left = both();
            while (is("or")) {
                left = binary(knot(), left, both());
            }
            return left;
        }

        Node both() {
            Node left = negated();
            while (is("and")) {
                left = binary(knot(), left, negated());
            }
            return left;
        }

        Node negated() {
            if (is("not")) {
                knot();
                Node of = negated();
                return names -> {
                    BigInteger v = of.value(names);
                    return v == null ? null : truth(v.signum() == 0);
                };
            }
            Node left = sum();
            if (is("<", "<=", "=", "<>", ">=", ">")) {
                left = binary(knot(), left, sum());
            }
            return left;
        }

        Node sum() {
            Node left = product();
            while (is("+", "-")) {
                left = binary(knot(), left, product());
            }
            return left;
        }

        Node product() {
            Node left = part();
            while (is("*", "/")) {
                left = binary(knot(), left, part());
            }
            return left;
        }

        Node part() {
            if (is("(")) {
                limit(open, 8);
                open++;
                step();
                Node in = either();
                if (!is(")")) {
                    throw fault(1);
                }
                step();
                open--;
                return in;
            }
            if (NAMES.contains(token)) {
                String name = knot();
                return names -> BigInteger.valueOf(names.get(name));
            }
            BigInteger v = BigInteger.valueOf(number(0, 9999));
            knot();
            return names -> v;
        }
    }

    // ---- the state ----

    static final class World {
        int[] dial;
        int[] gain;
        int[][] heard;
        boolean[][] knows;
        int[] last;
        int hour;
        long number;

        World(Text text) {
            int n = text.houses.size();
            dial = new int[n];
            gain = new int[n];
            for (int i = 0; i < n; i++) {
                dial[i] = text.houses.get(i).dial;
                gain[i] = text.houses.get(i).gain;
            }
            heard = new int[n][n];
            knows = new boolean[n][n];
            last = new int[n];
            number = text.setting("seed");
        }

        World(World w) {
            dial = w.dial.clone();
            gain = w.gain.clone();
            int n = dial.length;
            heard = new int[n][];
            knows = new boolean[n][];
            for (int i = 0; i < n; i++) {
                heard[i] = w.heard[i].clone();
                knows[i] = w.knows[i].clone();
            }
            last = w.last.clone();
            hour = w.hour;
            number = w.number;
        }

        int known(int i) {
            int n = 0;
            for (boolean k : knows[i]) {
                n += k ? 1 : 0;
            }
            return n;
        }

        int pairs() {
            int n = 0;
            for (int i = 0; i < dial.length; i++) {
                n += known(i);
            }
            return n;
        }

        int sumHeard() {
            int n = 0;
            for (int[] row : heard) {
                for (int v : row) {
                    n += v;
                }
            }
            return n;
        }
    }

    static final class How {
        int near;
        boolean drawn;
        boolean fades = true;
        boolean drifts = true;
        boolean turns = true;
        int silent = -1;
    }

    private record Mark(char sort, int a, int b, int c, boolean is) { }

    private byte[] tape = new byte[0];
    private Text text = new Text();
    private World now = new World(text);
    private World image;
    private final List<World> undo = new ArrayList<>();
    private final List<Mark> marks = new ArrayList<>();
    private int by = -1;
    private int fault;
    private int place = -1;

    private int n() {
        return text.houses.size();
    }

    private boolean is(int house) {
        return house >= 0 && house < n();
    }

    private boolean two(int one, int other) {
        return is(one) && is(other) && one != other;
    }

    private How how(boolean drawn) {
        How how = new How();
        how.near = text.setting("near");
        how.drawn = drawn;
        return how;
    }

    private Map<String, Long> names(World w, int house, int far, int kind, int heard) {
        Map<String, Long> m = new HashMap<>();
        m.put("dial", (long) w.dial[house]);
        m.put("gain", (long) w.gain[house]);
        m.put("far", (long) far);
        m.put("kind", (long) kind);
        m.put("heard", (long) heard);
        m.put("knows", (long) w.known(house));
        m.put("hour", (long) w.hour);
        return m;
    }

    private BigInteger worked(String law, Map<String, Long> names) {
        Node node = text.laws.get(law);
        return node == null ? null : node.value(names);
    }

    private static int cut(BigInteger v, int least, int most) {
        return v.max(BigInteger.valueOf(least)).min(BigInteger.valueOf(most)).intValue();
    }

    private boolean hears(World w, int one, int other, int near) {
        int far = Math.abs(w.dial[one] - w.dial[other]);
        BigInteger v = worked("reach", names(w, one, far, 0, w.heard[one][other]));
        return far <= (v == null ? near + w.gain[one] : cut(v, 0, 99));
    }

    private boolean hears(World w, int one, int other) {
        return hears(w, one, other, text.setting("near"));
    }

    private int sounded(World w, int house, int kind, int near) {
        int bits = 0;
        for (int i = 0; i < n(); i++) {
            if (i == house || !hears(w, i, house, near)) {
                continue;
            }
            bits |= 1 << i;
            w.heard[i][house] = Math.min(999, w.heard[i][house] + 1);
            w.last[i] = kind;
            int far = Math.abs(w.dial[i] - w.dial[house]);
            BigInteger v = worked("learn", names(w, i, far, kind, w.heard[i][house]));
            int need = v == null ? text.setting("often") : cut(v, 1, 99);
            w.knows[i][house] |= w.heard[i][house] >= need;
        }
        return bits;
    }

    private void hour(World w, How how) {
        for (Turn t : text.turns) {
            if (how.turns && t.hour == w.hour) {
                w.dial[t.house] = t.dial;
            }
        }
        for (Sound s : text.sounds) {
            if (s.hour == w.hour && s.house != how.silent) {
                sounded(w, s.house, s.kind, how.near);
            }
        }
        for (int i = 0; i < n() && how.drifts; i++) {
            BigInteger v = worked("drift", names(w, i, 0, 0, 0));
            int drift = v == null ? 0 : cut(v, -9, 9);
            w.dial[i] = Math.min(99, Math.max(0, w.dial[i] + drift));
        }
        int fade = text.setting("fade");
        for (int i = 0; i < n() && how.fades; i++) {
            boolean fades;
            if (!how.drawn) {
                fades = fade >= 50;
            } else if (fade == 0 || fade == 100) {
                fades = fade == 100;
            } else {
                w.number = (w.number * 1103515245L + 12345L) % (1L << 31);
                fades = w.number / 65536 % 100 < fade;
            }
            if (fades) {
                w.gain[i] = Math.max(0, w.gain[i] - 1);
            }
        }
        w.hour++;
    }

    private World later(World from, int hours, How how) {
        World w = new World(from);
        for (int i = 0; i < hours; i++) {
            hour(w, how);
        }
        return w;
    }

    // ---- the face ----

    int feed(int a, int b, int c, int d, int e) {
        if (tape.length + 20 > 700) {
            return -1;
        }
        java.nio.ByteBuffer more = java.nio.ByteBuffer.allocate(tape.length + 20);
        more.put(tape).putInt(a).putInt(b).putInt(c).putInt(d).putInt(e);
        tape = more.array();
        return tape.length;
    }

    int text(int n) {
        if (n < 0 || n > tape.length) {
            return -2;
        }
        String told = new String(tape, 0, n, java.nio.charset.StandardCharsets.ISO_8859_1);
        tape = new byte[0];
        try {
            Parser p = new Parser(told);
            p.text();
            text = p.into;
        } catch (Fault f) {
            fault = f.kind;
            place = f.place;
            return -1;
        }
        fault = 0;
        place = -1;
        now = new World(text);
        image = null;
        undo.clear();
        marks.clear();
        by = -1;
        return text.lines;
    }

    int fault(int what) {
        return what == 0 ? fault : what == 1 ? place : -1;
    }

    int named(int letters) {
        for (int i = 0; i < n(); i++) {
            int code = 0;
            for (int k = 0; k < 6; k++) {
                String name = text.houses.get(i).name;
                code = code * 32 + (k < name.length() ? name.charAt(k) - 96 : 0);
            }
            if (code == letters) {
                return i;
            }
        }
        return -1;
    }

    private interface Test {
        boolean is(int i);
    }

    private int bits(Test test) {
        int bits = 0;
        for (int i = 0; i < n(); i++) {
            bits |= test.is(i) ? 1 << i : 0;
        }
        return bits;
    }

    int house(int house, int what) {
        if (!is(house)) {
            throw new IndexOutOfBoundsException();
        }
        return switch (what) {
            case 0 -> now.dial[house];
            case 1 -> now.gain[house];
            case 2 -> bits(i -> i != house && hears(now, house, i));
            case 3 -> bits(i -> i != house && hears(now, i, house));
            case 4 -> bits(i -> now.knows[house][i]);
            case 5 -> bits(i -> now.knows[i][house]);
            case 6 -> now.last[house];
            default -> throw new java.util.NoSuchElementException();
        };
    }

    int heard(int one, int other) {
        return two(one, other) ? now.heard[one][other] : -1;
    }

    int sound(int house, int hour) {
        return is(house) && hour >= 0 && hour <= 99 ? text.kind(house, hour) : -1;
    }

    long law(int what, int house, int other) {
        BigInteger v = null;
        if (what == 2 && is(house)) {
            v = worked("drift", names(now, house, 0, 0, 0));
        } else if ((what == 0 || what == 1) && two(house, other)) {
            int far = Math.abs(now.dial[house] - now.dial[other]);
            v = worked(what == 0 ? "reach" : "learn", names(now, house, far, 0, now.heard[house][other]));
        }
        return v == null ? Long.MIN_VALUE : v.longValueExact();
    }

    private void remember() {
        undo.add(new World(now));
        if (undo.size() > 20) {
            undo.remove(0);
        }
    }

    boolean turn(int house, int dial) {
        if (!is(house) || dial < 0 || dial > 99 || now.dial[house] == dial) {
            return false;
        }
        remember();
        now.dial[house] = dial;
        return true;
    }

    int make(int house, int kind) {
        if (!is(house) || kind < 1 || kind > 9) {
            return -1;
        }
        remember();
        return sounded(now, house, kind, text.setting("near"));
    }

    int valve(int house) {
        if (!is(house)) {
            return -1;
        }
        int gain = text.houses.get(house).gain;
        if (now.gain[house] == gain) {
            return -2;
        }
        remember();
        now.gain[house] = gain;
        return gain;
    }

    int go(int n) {
        if (n < 0 || n > 99 || now.hour + n > 9000) {
            return -1;
        }
        if (n > 0) {
            undo.clear();
        }
        now = later(now, n, how(true));
        return now.hour;
    }

    int ahead(int n, int what, int house) {
        if (n < 0 || n > 99 || what < 0 || what > 3 || what > 1 && !is(house)) {
            return -1;
        }
        World w = later(now, n, how(false));
        return switch (what) {
            case 0 -> w.pairs() - now.pairs();
            case 1 -> w.sumHeard() - now.sumHeard();
            case 2 -> w.dial[house];
            default -> w.gain[house];
        };
    }

    int first(int what) {
        if (what != 0 && what != 1) {
            return -1;
        }
        for (int h = 0; h <= 99; h++) {
            World w = later(now, h, how(false));
            for (int i = 0; i < n(); i++) {
                for (int k = i + 1; k < n(); k++) {
                    if (w.knows[i][k] && w.knows[k][i]) {
                        return what == 0 ? h : i * 10 + k;
                    }
                }
            }
        }
        return -2;
    }

    private boolean met(World w, int house, int but) {
        for (int i = 0; i < n(); i++) {
            if (i != house && i != but && (hears(w, i, house) || hears(w, house, i))) {
                return true;
            }
        }
        return false;
    }

    int secret(int one, int other, int what) {
        if (!two(one, other) || what < 0 || what > 2) {
            return -1;
        }
        int[] best = null;
        World w = new World(now);
        for (int a = 0; a <= 99; a++) {
            w.dial[one] = a;
            if (met(w, one, other)) {
                continue;
            }
            for (int b = 0; b <= 99; b++) {
                w.dial[other] = b;
                int steps = Math.abs(a - now.dial[one]) + Math.abs(b - now.dial[other]);
                if ((best == null || steps < best[2]) && hears(w, one, other) && hears(w, other, one)
                        && !met(w, other, one)) {
                    best = new int[] {a, b, steps};
                }
            }
            w.dial[other] = now.dial[other];
        }
        return best == null ? -2 : best[what];
    }

    int spread(int what) {
        if (what < 0 || what > 4) {
            return -1;
        }
        int m = Math.min(4, n());
        if (what < 4 && what >= m) {
            return -2;
        }
        int all = 1;
        for (int i = 0; i < m; i++) {
            all *= 10;
        }
        int[] best = null;
        int fewest = Integer.MAX_VALUE;
        World w = new World(now);
        for (int c = 0; c < all; c++) {
            int rest = c;
            int steps = 0;
            for (int i = m - 1; i >= 0; i--) {
                w.dial[i] = rest % 10 * 11;
                rest /= 10;
                steps += Math.abs(w.dial[i] - now.dial[i]);
            }
            boolean free = steps < fewest;
            for (int i = 0; i < m && free; i++) {
                for (int k = 0; k < m && free; k++) {
                    free = i == k || !hears(w, i, k);
                }
            }
            if (free) {
                fewest = steps;
                best = w.dial.clone();
            }
        }
        return best == null ? -2 : what == 4 ? fewest : best[what];
    }

    private List<Mark> counting() {
        int n = by < 0 ? marks.size() : by;
        Set<Integer> struck = new HashSet<>();
        List<Mark> left = new ArrayList<>();
        for (int i = n - 1; i >= 0; i--) {
            if (struck.contains(i)) {
                continue;
            }
            left.add(marks.get(i));
            if (marks.get(i).sort == 'x') {
                struck.add(marks.get(i).a);
            }
        }
        return left;
    }

    int whose() {
        return bits(i -> {
            for (Mark m : counting()) {
                if (m.sort == 'n' && (text.kind(i, m.a) == m.b) != m.is) {
                    return false;
                }
            }
            return true;
        });
    }

    int ask(int what) {
        if (what != 0 && what != 1) {
            return -1;
        }
        int whose = whose();
        int best = -1;
        int fewest = 99;
        for (int h = 0; h <= 23; h++) {
            Map<Integer, Integer> by = new HashMap<>();
            int most = 0;
            for (int i = 0; i < n(); i++) {
                if ((whose >> i & 1) == 1) {
                    most = Math.max(most, by.merge(text.kind(i, h), 1, Integer::sum));
                }
            }
            if (most < fewest) {
                fewest = most;
                best = h;
            }
        }
        return what == 0 ? best : fewest;
    }

    private interface Link {
        boolean is(int from, int to);
    }

    private int reached(int house, int n, Link link) {
        Set<Integer> in = new HashSet<>(Set.of(house));
        for (int s = 0; s < n; s++) {
            Set<Integer> more = new HashSet<>(in);
            for (int a : in) {
                for (int b = 0; b < n(); b++) {
                    if (a != b && link.is(a, b)) {
                        more.add(b);
                    }
                }
            }
            in = more;
        }
        int bits = 0;
        for (int a : in) {
            bits |= 1 << a;
        }
        return bits;
    }

    int passed(int house, int n) {
        return is(house) && n >= 0 && n <= 6 ? reached(house, n, (a, b) -> hears(now, b, a)) : -1;
    }

    int gossip(int house, int n) {
        return is(house) && n >= 0 && n <= 6 ? reached(house, n, (a, b) -> now.knows[a][b]) : -1;
    }

    int before(int one, int other, int what) {
        if (!two(one, other) || what < 0 || what > 1) {
            return Integer.MIN_VALUE;
        }
        int best = 0;
        int most = -1;
        for (int k = -9; k <= 9; k++) {
            int same = 0;
            for (int h = 0; h <= 99; h++) {
                int kind = text.kind(one, h);
                same += kind != 0 && h + k >= 0 && h + k <= 99 && text.kind(other, h + k) == kind ? 1 : 0;
            }
            if (same > most || same == most && Math.abs(k) < Math.abs(best)) {
                most = same;
                best = k;
            }
        }
        return what == 0 ? best : most;
    }

    int warn() {
        for (int size = 0; size <= n(); size++) {
            for (int set = 0; set < 1 << n(); set++) {
                int s = set;
                if (Integer.bitCount(set) == size && bits(i -> (s >> i & 1) == 1
                        || bits(k -> k != i && (s >> k & 1) == 1 && hears(now, i, k)) != 0) == (1 << n()) - 1) {
                    return set;
                }
            }
        }
        return -99;
    }

    int busiest(int gain, int what) {
        if (gain < 0 || gain > 9 || what < 0 || what > 1) {
            return -1;
        }
        int best = 0;
        int most = -1;
        for (int d = 0; d <= 99; d++) {
            int at = d;
            int m = Integer.bitCount(bits(i -> Math.abs(now.dial[i] - at) <= text.setting("near") + gain));
            if (m > most) {
                most = m;
                best = d;
            }
        }
        return what == 0 ? best : most;
    }

    private List<Integer> restList(int house) {
        int[][] b = new int[4][4];
        int[][] h = new int[4][4];
        for (int i = 0; i < 4; i++) {
            for (int k = 0; k < 4; k++) {
                b[i][k] = (i == k ? 0 : 6) + (text.kind(house, now.hour + i) != 0 ? 2 : 0);
                h[i][k] = (i == k ? 5 : 0) - (text.kind(house, now.hour + k) != 0 ? 6 : 0);
            }
        }
        List<Integer> rests = new ArrayList<>();
        for (int i = 0; i < 4; i++) {
            for (int k = 0; k < 4; k++) {
                boolean rest = true;
                for (int o = 0; o < 4; o++) {
                    rest &= b[o][k] <= b[i][k] && h[i][o] <= h[i][k];
                }
                if (rest) {
                    rests.add(10 * i + k);
                }
            }
        }
        return rests;
    }

    int rests(int house) {
        return is(house) ? restList(house).size() : -1;
    }

    int rest(int house, int k) {
        if (!is(house) || k < 0) {
            return -1;
        }
        List<Integer> rests = restList(house);
        return k < rests.size() ? rests.get(k) : -2;
    }

    int alone() {
        return bits(i -> !met(now, i, i));
    }

    int code(int one, int other) {
        if (!two(one, other)) {
            return -1;
        }
        for (int n = 0; n <= 20; n++) {
            World w = new World(now);
            for (int i = 0; i < n; i++) {
                sounded(w, one, 1, text.setting("near"));
            }
            boolean fits = w.knows[other][one];
            for (int i = 0; i < n(); i++) {
                fits &= i == other || w.knows[i][one] == now.knows[i][one];
            }
            if (fits) {
                return n;
            }
        }
        return -2;
    }

    int hide(int house) {
        if (!is(house)) {
            return -1;
        }
        int best = -2;
        World w = new World(now);
        for (int d = 0; d <= 99; d++) {
            w.dial[house] = d;
            if (!met(w, house, house)
                    && (best < 0 || Math.abs(d - now.dial[house]) < Math.abs(best - now.dial[house]))) {
                best = d;
            }
        }
        return best;
    }

    int loudest() {
        int[] made = new int[6];
        for (Sound s : text.sounds) {
            made[s.house]++;
        }
        int best = -2;
        for (int i = 0; i < 6; i++) {
            if (made[i] > (best < 0 ? 0 : made[best])) {
                best = i;
            }
        }
        return best;
    }

    int nextHeard(int one, int other) {
        if (!two(one, other)) {
            return -1;
        }
        World w = new World(now);
        for (int h = 1; h <= 99; h++) {
            hour(w, how(false));
            if (w.heard[one][other] > now.heard[one][other]) {
                return h;
            }
        }
        return -2;
    }

    int lure(int one, int other) {
        if (!two(one, other)) {
            return -1;
        }
        int best = -2;
        int least = Integer.MAX_VALUE;
        World w = new World(now);
        for (int d = 0; d <= 99; d++) {
            w.dial[one] = d;
            if (!hears(w, other, one)) {
                continue;
            }
            int others = Integer.bitCount(bits(i -> i != one && i != other && hears(w, i, one)));
            int rank = others * 1000 + Math.abs(d - now.dial[one]);
            if (rank < least) {
                least = rank;
                best = d;
            }
        }
        return best;
    }

    private int mark(Mark m) {
        if (marks.size() == 24) {
            return -1;
        }
        marks.add(m);
        return marks.size() - 1;
    }

    int note(int hour, int kind, boolean is) {
        return hour < 0 || hour > 99 || kind < 0 || kind > 9 ? -1 : mark(new Mark('n', hour, kind, 0, is));
    }

    int see(int hours, int one, int other, boolean knew) {
        return hours < 1 || hours > 60 || !two(one, other) ? -1 : mark(new Mark('s', hours, one, other, knew));
    }

    int strike(int told) {
        return told < 0 || told >= marks.size() ? -1 : mark(new Mark('x', told, 0, 0, true));
    }

    boolean known(int n) {
        if (n < -1 || n > marks.size()) {
            return false;
        }
        by = n;
        return true;
    }

    int nears() {
        int bits = 0;
        for (int near = 0; near <= 9; near++) {
            boolean fits = true;
            How how = how(false);
            how.near = near;
            for (Mark m : counting()) {
                if (m.sort == 's') {
                    fits &= later(new World(text), m.a, how).knows[m.b][m.c] == m.is;
                }
            }
            bits |= fits ? 1 << near : 0;
        }
        return bits;
    }

    int chance(int seed, int n, int one, int other) {
        if (seed < 0 || n < 1 || n > 99 || !two(one, other)) {
            return -1;
        }
        long number = seed;
        int times = 0;
        for (int i = 0; i < 10; i++) {
            World w = new World(now);
            w.number = number;
            w = later(w, n, how(true));
            number = w.number;
            times += w.knows[one][other] ? 1 : 0;
        }
        return times;
    }

    int tried(int what, int i, int n) {
        if (what < 0 || what > 4 || n < 0 || n > 99 || (what == 2 ? !is(i) : i != 0)) {
            return -1;
        }
        How how = how(false);
        how.fades = what != 0;
        how.drifts = what != 1;
        how.silent = what == 2 ? i : -1;
        how.turns = what != 4;
        World w = new World(now);
        if (what == 3) {
            java.util.Arrays.fill(w.gain, 9);
        }
        return later(w, n, how).pairs() - now.pairs();
    }

    int undo() {
        if (undo.isEmpty()) {
            return -1;
        }
        now = undo.remove(undo.size() - 1);
        return undo.size();
    }

    int keep() {
        image = new World(now);
        return now.hour;
    }

    int back() {
        if (image == null) {
            return -1;
        }
        now = new World(image);
        undo.clear();
        return now.hour;
    }

    int count(int what) {
        return switch (what) {
            case 0 -> n();
            case 1 -> text.turns.size();
            case 2 -> text.sounds.size();
            case 3 -> text.knots;
            case 4 -> now.hour;
            case 5 -> now.pairs();
            case 6 -> now.sumHeard();
            case 7 -> java.util.Arrays.stream(now.gain).sum();
            case 8 -> marks.size();
            case 9 -> by < 0 ? marks.size() : by;
            case 10 -> undo.size();
            default -> -1;
        };
    }
}
