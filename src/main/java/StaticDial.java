import java.util.NoSuchElementException;

/** Houses whose sets hear one another, told as a text; see ../shared/DOC.md for each call. */
public final class StaticDial {
    public static final int NONE = -1;

    private static final int NOT_SO = -2;
    private static final int MOST_HOUSES = 6;
    private static final int MOST_TURNS = 10;
    private static final int MOST_SOUNDS = 12;
    private static final int MOST_KNOTS = 64;
    private static final int MOST_OPEN = 8;
    private static final int MOST_NOTES = 24;
    private static final int MOST_UNDOS = 20;
    private static final int MOST_STEPS = 6;
    private static final int MOST_CODE = 20;
    private static final int TAPE_LENGTH = 700;
    private static final int FED = 20;

    private static final int LAST_DIAL = 99;
    private static final int LAST_GAIN = 9;
    private static final int LAST_KIND = 9;
    private static final int LAST_TOLD_HOUR = 99;
    private static final int LAST_ASKED_HOUR = 23;
    private static final int LAST_HOUR = 9000;
    private static final int LAST_SIGHT = 60;
    private static final int LAST_LATER = 9;
    private static final int LAST_CHOICE = 3;
    private static final int LAST_NEAR_TRIED = 9;
    private static final int MOST_AHEAD = 99;
    private static final int MOST_HEARD = 999;
    private static final int TIMES_DRAWN = 10;

    private static final int REACH = 0;
    private static final int LEARN = 1;
    private static final int DRIFT = 2;
    private static final int LAWS = 3;

    private static final int NEAR = 0;
    private static final int OFTEN = 1;
    private static final int FADE = 2;
    private static final int SEED = 3;
    private static final int SETTINGS = 4;

    private final int[] tape = new int[TAPE_LENGTH];
    private int taped;
    private Told told = new Told();
    private Told draft = new Told();
    private final Reader reader = new Reader(draft);
    private final Hours hours = new Hours(told);
    private final Places places = new Places(hours);
    private final State now = new State();
    private final State guess = new State();
    private final State image = new State();
    private boolean imageKept;
    private final Undos undos = new Undos();
    private final Notes notes = new Notes();
    private final int[] bits = new int[MOST_HOUSES];

    public StaticDial() {
        hours.asItGoes();
        now.begin(told);
    }

    // ---- the text ----

    public int feed(int a, int b, int c, int d, int e) {
        if (taped + FED > TAPE_LENGTH) {
            return NONE;
        }
        tapeNumber(a);
        tapeNumber(b);
        tapeNumber(c);
        tapeNumber(d);
        tapeNumber(e);
        return taped;
    }

    private void tapeNumber(int number) {
        for (int shift = 24; shift >= 0; shift -= 8) {
            tape[taped] = (number >>> shift) & 255;
            taped++;
        }
    }

    public int text(int n) {
        if (n < 0 || n > taped) {
            return NOT_SO;
        }
        taped = 0;
        if (!reader.read(tape, n, draft)) {
            return NONE;
        }
        Told old = told;
        told = draft;
        draft = old;
        hours.told = told;
        hours.asItGoes();
        now.begin(told);
        notes.clear();
        undos.clear();
        imageKept = false;
        return told.lines;
    }

    public int fault(int what) {
        switch (what) {
            case 0:
                return reader.fault;
            case 1:
                return reader.place;
            default:
                return NONE;
        }
    }

    public int named(int letters) {
        return told.houseOf(letters);
    }

    // ---- what is now ----

    private boolean isHouse(int house) {
        return house >= 0 && house < told.houses;
    }

    private boolean areTwo(int one, int other) {
        return isHouse(one) && isHouse(other) && one != other;
    }

    private static boolean isWithin(int number, int least, int most) {
        return number >= least && number <= most;
    }

    public int house(int house, int what) throws IndexOutOfBoundsException, NoSuchElementException {
        if (!isHouse(house)) {
            throw new IndexOutOfBoundsException("no such house");
        }
        switch (what) {
            case 0:
                return now.dial[house];
            case 1:
                return now.gain[house];
            case 2:
                return hours.heardBy(now, house);
            case 3:
                return hours.hearersOf(now, house);
            case 4:
                return now.knows[house];
            case 5:
                return now.knowersOf(house);
            case 6:
                return now.kind[house];
            default:
                throw new NoSuchElementException("no such what");
        }
    }

    public int heard(int one, int other) {
        return areTwo(one, other) ? now.timesHeard(one, other) : NONE;
    }

    public int sound(int house, int hour) {
        if (!isHouse(house) || !isWithin(hour, 0, LAST_TOLD_HOUR)) {
            return NONE;
        }
        return told.kindAt(house, hour);
    }

    public long law(int what, int house, int other) {
        if (!isWithin(what, 0, LAWS - 1) || !isHouse(house)) {
            return Long.MIN_VALUE;
        }
        if (what == DRIFT) {
            return hours.driftNow(now, house);
        }
        return areTwo(house, other) ? hours.lawNow(now, what, house, other) : Long.MIN_VALUE;
    }

    public int count(int what) {
        switch (what) {
            case 0:
                return told.houses;
            case 1:
                return told.turns;
            case 2:
                return told.sounds;
            case 3:
                return told.knots;
            case 4:
                return now.hour;
            case 5:
                return now.pairs();
            case 6:
                return now.heardInAll();
            case 7:
                return now.gainOfAll();
            case 8:
                return notes.size;
            case 9:
                return notes.counted();
            case 10:
                return undos.size;
            default:
                return NONE;
        }
    }

    // ---- what is done by call ----

    public boolean turn(int house, int dial) {
        if (!isHouse(house) || !isWithin(dial, 0, LAST_DIAL) || now.dial[house] == dial) {
            return false;
        }
        undos.push(now);
        now.dial[house] = dial;
        return true;
    }

    public int make(int house, int kind) {
        if (!isHouse(house) || !isWithin(kind, 1, LAST_KIND)) {
            return NONE;
        }
        undos.push(now);
        return hours.soundMade(now, house, kind);
    }

    public int valve(int house) {
        if (!isHouse(house)) {
            return NONE;
        }
        if (now.gain[house] == told.gain[house]) {
            return NOT_SO;
        }
        undos.push(now);
        now.gain[house] = told.gain[house];
        return now.gain[house];
    }

    public int go(int n) {
        if (!isWithin(n, 0, MOST_AHEAD) || now.hour + n > LAST_HOUR) {
            return NONE;
        }
        if (n > 0) {
            undos.clear();
            hours.asDrawn();
            hours.pass(now, n);
        }
        return now.hour;
    }

    public int undo() {
        return undos.pop(now) ? undos.size : NONE;
    }

    public int keep() {
        image.copy(now);
        imageKept = true;
        return now.hour;
    }

    public int back() {
        if (!imageKept) {
            return NONE;
        }
        now.copy(image);
        undos.clear();
        return now.hour;
    }

    // ---- what comes ----

    private void guessAsItGoes() {
        guess.copy(now);
        hours.asItGoes();
    }

    public int ahead(int n, int what, int house) {
        if (!isWithin(n, 0, MOST_AHEAD) || !isWithin(what, 0, 3) || (what >= 2 && !isHouse(house))) {
            return NONE;
        }
        guessAsItGoes();
        hours.pass(guess, n);
        switch (what) {
            case 0:
                return guess.pairs() - now.pairs();
            case 1:
                return guess.heardInAll() - now.heardInAll();
            case 2:
                return guess.dial[house];
            default:
                return guess.gain[house];
        }
    }

    public int first(int what) {
        if (!isWithin(what, 0, 1)) {
            return NONE;
        }
        guessAsItGoes();
        int two = guess.firstTwo(told.houses);
        int n = 0;
        while (two == NONE && n < MOST_AHEAD) {
            hours.pass(guess, 1);
            n++;
            two = guess.firstTwo(told.houses);
        }
        if (two == NONE) {
            return NOT_SO;
        }
        return what == 0 ? n : two;
    }

    public int nextHeard(int one, int other) {
        if (!areTwo(one, other)) {
            return NONE;
        }
        guessAsItGoes();
        for (int n = 1; n <= MOST_AHEAD; n++) {
            hours.pass(guess, 1);
            if (guess.timesHeard(one, other) > now.timesHeard(one, other)) {
                return n;
            }
        }
        return NOT_SO;
    }

    public int chance(int seed, int n, int one, int other) {
        if (seed < 0 || !isWithin(n, 1, MOST_AHEAD) || !areTwo(one, other)) {
            return NONE;
        }
        hours.asDrawn();
        int number = seed;
        int times = 0;
        for (int i = 0; i < TIMES_DRAWN; i++) {
            guess.copy(now);
            guess.number = number;
            hours.pass(guess, n);
            number = guess.number;
            if (guess.isKnown(one, other)) {
                times++;
            }
        }
        return times;
    }

    public int tried(int what, int i, int n) {
        if (!isWithin(what, 0, 4) || !isWithin(n, 0, MOST_AHEAD)) {
            return NONE;
        }
        if (what == 2 ? !isHouse(i) : i != 0) {
            return NONE;
        }
        guessAsItGoes();
        switch (what) {
            case 0:
                hours.fading = Hours.FADES_NEVER;
                break;
            case 1:
                hours.drifts = false;
                break;
            case 2:
                hours.silent = i;
                break;
            case 3:
                guess.strengthen(told.houses);
                break;
            default:
                hours.turns = false;
                break;
        }
        hours.pass(guess, n);
        return guess.pairs() - now.pairs();
    }

    public int code(int one, int other) {
        if (!areTwo(one, other)) {
            return NONE;
        }
        guess.copy(now);
        int knowers = now.knowersOf(one);
        int wanted = knowers | 1 << other;
        for (int n = 0; n <= MOST_CODE; n++) {
            if (guess.knowersOf(one) == wanted) {
                return n;
            }
            hours.soundMade(guess, one, 1);
        }
        return NOT_SO;
    }

    // ---- where the dials might be ----

    public int secret(int one, int other, int what) {
        if (!areTwo(one, other) || !isWithin(what, 0, 2)) {
            return NONE;
        }
        guess.copy(now);
        if (!places.findPrivate(guess, one, other)) {
            return NOT_SO;
        }
        switch (what) {
            case 0:
                return places.chosen[0];
            case 1:
                return places.chosen[1];
            default:
                return places.fewest;
        }
    }

    public int spread(int what) {
        if (!isWithin(what, 0, Places.SPREAD_HOUSES)) {
            return NONE;
        }
        if (what < Places.SPREAD_HOUSES && what >= told.houses) {
            return NOT_SO;
        }
        guess.copy(now);
        if (!places.findSpread(guess)) {
            return NOT_SO;
        }
        return what == Places.SPREAD_HOUSES ? places.fewest : places.chosen[what];
    }

    public int hide(int house) {
        if (!isHouse(house)) {
            return NONE;
        }
        guess.copy(now);
        return places.findHidden(guess, house);
    }

    public int lure(int one, int other) {
        if (!areTwo(one, other)) {
            return NONE;
        }
        guess.copy(now);
        return places.findLure(guess, one, other);
    }

    public int busiest(int gain, int what) {
        if (!isWithin(gain, 0, LAST_GAIN) || !isWithin(what, 0, 1)) {
            return NONE;
        }
        int reach = told.settings[NEAR] + gain;
        int most = NONE;
        int best = 0;
        for (int dial = 0; dial <= LAST_DIAL; dial++) {
            int houses = now.housesAbout(dial, reach, told.houses);
            if (houses > most) {
                most = houses;
                best = dial;
            }
        }
        return what == 0 ? best : most;
    }

    // ---- who reaches whom ----

    public int passed(int house, int n) {
        if (!isHouse(house) || !isWithin(n, 0, MOST_STEPS)) {
            return NONE;
        }
        for (int i = 0; i < told.houses; i++) {
            bits[i] = hours.hearersOf(now, i);
        }
        return reachedFrom(house, n);
    }

    public int gossip(int house, int n) {
        if (!isHouse(house) || !isWithin(n, 0, MOST_STEPS)) {
            return NONE;
        }
        for (int i = 0; i < told.houses; i++) {
            bits[i] = now.knows[i];
        }
        return reachedFrom(house, n);
    }

    private int reachedFrom(int house, int n) {
        int reached = 1 << house;
        for (int step = 0; step < n; step++) {
            int more = reached;
            for (int i = 0; i < told.houses; i++) {
                if ((reached >> i & 1) == 1) {
                    more |= bits[i];
                }
            }
            reached = more;
        }
        return reached;
    }

    public int warn() {
        for (int i = 0; i < told.houses; i++) {
            bits[i] = hours.heardBy(now, i) | 1 << i;
        }
        int all = (1 << told.houses) - 1;
        int best = all;
        for (int set = 0; set < all; set++) {
            if (Integer.bitCount(set) < Integer.bitCount(best) && warnsAll(set)) {
                best = set;
            }
        }
        return best;
    }

    private boolean warnsAll(int set) {
        for (int i = 0; i < told.houses; i++) {
            if ((bits[i] & set) == 0) {
                return false;
            }
        }
        return true;
    }

    public int alone() {
        int alone = 0;
        for (int i = 0; i < told.houses; i++) {
            if (hours.heardBy(now, i) == 0 && hours.hearersOf(now, i) == 0) {
                alone |= 1 << i;
            }
        }
        return alone;
    }

    // ---- sounds as told ----

    public int before(int one, int other, int what) {
        if (!areTwo(one, other) || !isWithin(what, 0, 1)) {
            return Integer.MIN_VALUE;
        }
        int best = 0;
        int most = told.alike(one, other, 0);
        for (int i = 2; i <= 2 * LAST_LATER + 1; i++) {
            // -1, 1, -2, 2 and so on: the first of those that are best is then the right one
            int later = i % 2 == 0 ? -(i / 2) : i / 2;
            int alike = told.alike(one, other, later);
            if (alike > most) {
                most = alike;
                best = later;
            }
        }
        return what == 0 ? best : most;
    }

    public int loudest() {
        int best = NOT_SO;
        int most = 0;
        for (int i = 0; i < told.houses; i++) {
            int sounds = told.soundsOf(i);
            if (sounds > most) {
                most = sounds;
                best = i;
            }
        }
        return best;
    }

    public int rests(int house) {
        if (!isHouse(house)) {
            return NONE;
        }
        int rests = 0;
        for (int burglar = 0; burglar <= LAST_CHOICE; burglar++) {
            for (int listens = 0; listens <= LAST_CHOICE; listens++) {
                if (isRest(house, burglar, listens)) {
                    rests++;
                }
            }
        }
        return rests;
    }

    public int rest(int house, int k) {
        if (!isHouse(house) || k < 0) {
            return NONE;
        }
        int left = k;
        for (int burglar = 0; burglar <= LAST_CHOICE; burglar++) {
            for (int listens = 0; listens <= LAST_CHOICE; listens++) {
                if (isRest(house, burglar, listens)) {
                    if (left == 0) {
                        return 10 * burglar + listens;
                    }
                    left--;
                }
            }
        }
        return NOT_SO;
    }

    private boolean isRest(int house, int burglar, int listens) {
        for (int otherwise = 0; otherwise <= LAST_CHOICE; otherwise++) {
            if (burglarHas(house, otherwise, listens) > burglarHas(house, burglar, listens)
                    || houseHas(house, burglar, otherwise) > houseHas(house, burglar, listens)) {
                return false;
            }
        }
        return true;
    }

    private int burglarHas(int house, int burglar, int listens) {
        int has = burglar == listens ? 0 : 6;
        return told.kindAt(house, now.hour + burglar) != 0 ? has + 2 : has;
    }

    private int houseHas(int house, int burglar, int listens) {
        int has = burglar == listens ? 5 : 0;
        return told.kindAt(house, now.hour + listens) != 0 ? has - 6 : has;
    }

    // ---- what was noted and seen ----

    public int note(int hour, int kind, boolean is) {
        if (!isWithin(hour, 0, LAST_TOLD_HOUR) || !isWithin(kind, 0, LAST_KIND)) {
            return NONE;
        }
        return notes.add(Notes.NOTE, hour, kind, 0, is);
    }

    public int see(int hours, int one, int other, boolean knew) {
        if (!isWithin(hours, 1, LAST_SIGHT) || !areTwo(one, other)) {
            return NONE;
        }
        return notes.add(Notes.SIGHT, hours, one, other, knew);
    }

    public int strike(int told) {
        if (!isWithin(told, 0, notes.size - 1)) {
            return NONE;
        }
        return notes.add(Notes.STRIKE, told, 0, 0, true);
    }

    public boolean known(int n) {
        if (!isWithin(n, NONE, notes.size)) {
            return false;
        }
        notes.by = n;
        return true;
    }

    public int whose() {
        notes.settle();
        int whose = 0;
        for (int i = 0; i < told.houses; i++) {
            if (notes.mayBe(told, i)) {
                whose |= 1 << i;
            }
        }
        return whose;
    }

    public int ask(int what) {
        if (!isWithin(what, 0, 1)) {
            return NONE;
        }
        int whose = whose();
        int best = 0;
        int fewest = told.mostAlike(whose, 0);
        for (int hour = 1; hour <= LAST_ASKED_HOUR; hour++) {
            int left = told.mostAlike(whose, hour);
            if (left < fewest) {
                fewest = left;
                best = hour;
            }
        }
        return what == 0 ? best : fewest;
    }

    public int nears() {
        notes.settle();
        int last = notes.lastSight();
        int nears = 0;
        hours.asItGoes();
        for (int near = 0; near <= LAST_NEAR_TRIED; near++) {
            hours.near = near;
            guess.begin(told);
            boolean isSo = true;
            for (int n = 1; n <= last && isSo; n++) {
                hours.pass(guess, 1);
                isSo = notes.isSeen(guess, n);
            }
            if (isSo) {
                nears |= 1 << near;
            }
        }
        // the calls that only ask who hears whom count on near as it is told
        hours.asItGoes();
        return nears;
    }

    // ---- a law's E, as it is told and as it is worked out ----

    /** Its knots behind what they join; none of them: the law isn't told. */
    private static final class Law {
        static final int FIRST_NAME = 10000;
        static final int NAMES = 7;
        static final int FIRST_SIGN = 20000;

        final int[] knots = new int[MOST_KNOTS];
        int size;

        void add(int knot) {
            if (size < MOST_KNOTS) {
                knots[size] = knot;
                size++;
            }
        }
    }

    /** Works out an E; the names' values are laid into it before. */
    private static final class Sum {
        private static final long LIMIT = 1000000000000L;
        private static final long BEYOND = LIMIT + 1;

        static final int OR = 0;
        static final int AND = 1;
        static final int NOT = 2;
        static final int LESS = 3;
        static final int NOT_MORE = 4;
        static final int EQUAL = 5;
        static final int UNLIKE = 6;
        static final int NOT_LESS = 7;
        static final int MORE = 8;
        static final int PLUS = 9;
        static final int MINUS = 10;
        static final int TIMES = 11;
        static final int BY = 12;

        final long[] names = new long[Law.NAMES];
        private final long[] stack = new long[MOST_KNOTS];
        long value;

        boolean isWorkedOut(Law law) {
            int height = 0;
            boolean error = false;
            for (int i = 0; i < law.size && !error; i++) {
                int knot = law.knots[i];
                if (knot < Law.FIRST_SIGN) {
                    stack[height] = knot < Law.FIRST_NAME ? knot : names[knot - Law.FIRST_NAME];
                    height++;
                } else if (knot == Law.FIRST_SIGN + NOT && height >= 1) {
                    stack[height - 1] = stack[height - 1] == 0 ? 1 : 0;
                } else if (height >= 2) {
                    height--;
                    long joined = joined(knot - Law.FIRST_SIGN, stack[height - 1], stack[height]);
                    error = joined > LIMIT || joined < -LIMIT;
                    stack[height - 1] = joined;
                } else {
                    error = true;
                }
            }
            if (error || height != 1) {
                return false;
            }
            value = stack[0];
            return true;
        }

        private static long joined(int sign, long left, long right) {
            switch (sign) {
                case OR:
                    return left != 0 || right != 0 ? 1 : 0;
                case AND:
                    return left != 0 && right != 0 ? 1 : 0;
                case LESS:
                    return left < right ? 1 : 0;
                case NOT_MORE:
                    return left <= right ? 1 : 0;
                case EQUAL:
                    return left == right ? 1 : 0;
                case UNLIKE:
                    return left != right ? 1 : 0;
                case NOT_LESS:
                    return left >= right ? 1 : 0;
                case MORE:
                    return left > right ? 1 : 0;
                case PLUS:
                    return left + right;
                case MINUS:
                    return left - right;
                case TIMES:
                    // two values within the limit may multiply to more than a long holds
                    if (left != 0 && (right < 0 ? -right : right) > LIMIT / (left < 0 ? -left : left)) {
                        return BEYOND;
                    }
                    return left * right;
                default:
                    return right == 0 ? BEYOND : left / right;
            }
        }
    }

    // ---- the text as told ----

    private static final class Told {
        int lines;
        int knots;
        int houses;
        final int[] name = new int[MOST_HOUSES];
        final int[] dial = new int[MOST_HOUSES];
        final int[] gain = new int[MOST_HOUSES];
        int turns;
        final int[] turnHouse = new int[MOST_TURNS];
        final int[] turnHour = new int[MOST_TURNS];
        final int[] turnDial = new int[MOST_TURNS];
        int sounds;
        final int[] soundHouse = new int[MOST_SOUNDS];
        final int[] soundHour = new int[MOST_SOUNDS];
        final int[] soundKind = new int[MOST_SOUNDS];
        final int[] settings = new int[SETTINGS];
        final boolean[] isSet = new boolean[SETTINGS];
        final Law[] laws = new Law[LAWS];

        Told() {
            for (int i = 0; i < LAWS; i++) {
                laws[i] = new Law();
            }
            clear();
        }

        void clear() {
            lines = 0;
            knots = 0;
            houses = 0;
            turns = 0;
            sounds = 0;
            for (int i = 0; i < SETTINGS; i++) {
                isSet[i] = false;
            }
            settings[NEAR] = 3;
            settings[OFTEN] = 2;
            settings[FADE] = 0;
            settings[SEED] = 0;
            for (int i = 0; i < LAWS; i++) {
                laws[i].size = 0;
            }
        }

        void addHouse(int letters, int at, int strength) {
            name[houses] = letters;
            dial[houses] = at;
            gain[houses] = strength;
            houses++;
        }

        void addTurn(int house, int hour, int to) {
            turnHouse[turns] = house;
            turnHour[turns] = hour;
            turnDial[turns] = to;
            turns++;
        }

        void addSound(int house, int hour, int kind) {
            soundHouse[sounds] = house;
            soundHour[sounds] = hour;
            soundKind[sounds] = kind;
            sounds++;
        }

        int houseOf(int letters) {
            for (int i = 0; i < houses; i++) {
                if (name[i] == letters) {
                    return i;
                }
            }
            return NONE;
        }

        int kindAt(int house, int hour) {
            for (int i = 0; i < sounds; i++) {
                if (soundHouse[i] == house && soundHour[i] == hour) {
                    return soundKind[i];
                }
            }
            return 0;
        }

        int soundsOf(int house) {
            int of = 0;
            for (int i = 0; i < sounds; i++) {
                if (soundHouse[i] == house) {
                    of++;
                }
            }
            return of;
        }

        int alike(int one, int other, int later) {
            int alike = 0;
            for (int i = 0; i < sounds; i++) {
                if (soundHouse[i] == one && kindAt(other, soundHour[i] + later) == soundKind[i]) {
                    alike++;
                }
            }
            return alike;
        }

        int mostAlike(int set, int hour) {
            int most = 0;
            for (int kind = 0; kind <= LAST_KIND; kind++) {
                int alike = 0;
                for (int i = 0; i < houses; i++) {
                    if ((set >> i & 1) == 1 && kindAt(i, hour) == kind) {
                        alike++;
                    }
                }
                most = Math.max(most, alike);
            }
            return most;
        }
    }

    // ---- reading a text ----

    /** A text cut into tokens; one that is none is only told when it is come to. */
    private static final class Tokens {
        static final int END = 0;
        static final int BAD = 1;
        static final int NAME = 2;
        static final int WORD = 3;
        static final int NUMBER = 4;
        static final int SIGN = 5;

        // five letters each, so that a word's number is its place in the row by five
        private static final String WORDS =
            "houseturn soundnear oftenfade seed law  reachlearndriftor   and  not  dial gain far  kind heardknowshour ";
        private static final int WIDTH = 5;
        private static final int LANGUAGE = 21;
        static final int HOUSE = 0;
        static final int TURN = 1;
        static final int SOUND = 2;
        static final int FIRST_SETTING = 3;
        static final int LAW = 7;
        static final int FIRST_LAW = 8;
        static final int OR = 11;
        static final int AND = 12;
        static final int NOT = 13;
        static final int FIRST_NAME = 14;

        static final int OPEN = 13;
        static final int CLOSE = 14;
        static final int LINE_END = 15;

        private static final int MOST_LETTERS = 6;
        private static final int LETTER_BITS = 5;
        // above every number that a text may tell, and far below what an int holds
        private static final int HUGE = 1000000;

        private final int[] language = new int[LANGUAGE];
        private final int[] sorts = new int[TAPE_LENGTH + 1];
        private final int[] places = new int[TAPE_LENGTH + 1];
        private final int[] values = new int[TAPE_LENGTH + 1];
        private int size;
        private int current;
        private int[] signs = new int[0];
        private int length;
        private int next;
        /** Of the token that it has come to. */
        int sort;
        int place;
        int value;

        Tokens() {
            for (int word = 0; word < LANGUAGE; word++) {
                int letters = 0;
                for (int i = 0; i < MOST_LETTERS; i++) {
                    char sign = i < WIDTH ? WORDS.charAt(word * WIDTH + i) : ' ';
                    letters = letters << LETTER_BITS | (sign == ' ' ? 0 : sign - 'a' + 1);
                }
                language[word] = letters;
            }
        }

        void cut(int[] text, int n) {
            signs = text;
            length = Math.min(Math.min(n, text.length), TAPE_LENGTH);
            next = 0;
            size = 0;
            for (int i = 0; i < TAPE_LENGTH && next < length; i++) {
                int sign = signs[next];
                if (sign == ' ' || sign == '\n') {
                    next++;
                } else if (sign >= 'a' && sign <= 'z') {
                    cutWord();
                } else if (sign >= '0' && sign <= '9') {
                    cutNumber();
                } else {
                    cutSign(sign);
                }
            }
            add(END, length, 0);
            current = -1;
            step();
        }

        private void add(int ofSort, int at, int with) {
            sorts[size] = ofSort;
            places[size] = at;
            values[size] = with;
            size++;
        }

        private void cutWord() {
            int from = next;
            int letters = 0;
            while (next < length && signs[next] >= 'a' && signs[next] <= 'z') {
                if (next - from < MOST_LETTERS) {
                    letters = letters << LETTER_BITS | signs[next] - 'a' + 1;
                }
                next++;
            }
            if (next - from > MOST_LETTERS) {
                add(BAD, from, 0);
                return;
            }
            letters <<= LETTER_BITS * (MOST_LETTERS - (next - from));
            int word = wordOf(letters);
            if (word != NONE) {
                add(WORD, from, word);
            } else {
                add(NAME, from, letters);
            }
        }

        private int wordOf(int letters) {
            for (int word = 0; word < LANGUAGE; word++) {
                if (language[word] == letters) {
                    return word;
                }
            }
            return NONE;
        }

        private void cutNumber() {
            int from = next;
            int number = 0;
            while (next < length && signs[next] >= '0' && signs[next] <= '9') {
                number = Math.min(HUGE, number * 10 + signs[next] - '0');
                next++;
            }
            add(NUMBER, from, number);
        }

        private void cutSign(int sign) {
            int from = next;
            int follower = next + 1 < length ? signs[next + 1] : 0;
            int which = signOf(sign, follower);
            boolean isLong = which == Sum.NOT_MORE || which == Sum.UNLIKE || which == Sum.NOT_LESS;
            next += isLong ? 2 : 1;
            add(which == NONE ? BAD : SIGN, from, which);
        }

        private static int signOf(int sign, int follower) {
            switch (sign) {
                case '<':
                    return follower == '=' ? Sum.NOT_MORE : follower == '>' ? Sum.UNLIKE : Sum.LESS;
                case '>':
                    return follower == '=' ? Sum.NOT_LESS : Sum.MORE;
                case '=':
                    return Sum.EQUAL;
                case '+':
                    return Sum.PLUS;
                case '-':
                    return Sum.MINUS;
                case '*':
                    return Sum.TIMES;
                case '/':
                    return Sum.BY;
                case '(':
                    return OPEN;
                case ')':
                    return CLOSE;
                case ';':
                    return LINE_END;
                default:
                    return NONE;
            }
        }

        boolean isWord(int word) {
            return sort == WORD && value == word;
        }

        boolean isSign(int sign) {
            return sort == SIGN && value == sign;
        }

        /** Goes on to the next token; at the end it stays. */
        void step() {
            if (current < size - 1) {
                current++;
            }
            sort = sorts[current];
            place = places[current];
            value = values[current];
        }
    }

    /** Reads a text from left to right and stops at its first fault. */
    private static final class Reader {
        private static final int MISPLACED = 1;
        private static final int TOO_MUCH = 2;
        private static final int TOLD_ALREADY = 3;
        private static final int NOT_TOLD = 4;

        private static final int LAST_NUMBER = 9999;

        private static final int RANK_NOT = 3;
        private static final int RANK_COMPARED = 4;
        // of or, and, not, six comparisons, + and -, * and /, and of a '(', which keeps what is ahead of it aside
        private static final int[] RANKS = {1, 2, 3, 4, 4, 4, 4, 4, 4, 5, 5, 6, 6, 0};

        private final Tokens tokens = new Tokens();
        private Told told;
        private Law law;
        /** Signs that wait for what binds closer behind them. */
        private final int[] aside = new int[MOST_KNOTS + MOST_OPEN];
        private int waiting;
        private int open;
        int fault;
        int place = NONE;

        Reader(Told first) {
            told = first;
            law = first.laws[REACH];
        }

        boolean read(int[] tape, int n, Told into) {
            told = into;
            told.clear();
            fault = 0;
            place = NONE;
            tokens.cut(tape, n);
            // each line takes one token at least
            for (int i = 0; i <= n && fault == 0 && tokens.sort != Tokens.END; i++) {
                readLine();
                takeLineEnd();
            }
            return fault == 0;
        }

        private void fail(int kind) {
            if (fault == 0) {
                fault = kind;
                place = tokens.place;
            }
        }

        private void readLine() {
            switch (tokens.sort == Tokens.WORD ? tokens.value : NONE) {
                case Tokens.HOUSE:
                    readHouse();
                    break;
                case Tokens.TURN:
                    readTurn();
                    break;
                case Tokens.SOUND:
                    readSound();
                    break;
                case Tokens.FIRST_SETTING + NEAR:
                    readSetting(NEAR, 0, 20);
                    break;
                case Tokens.FIRST_SETTING + OFTEN:
                    readSetting(OFTEN, 1, 9);
                    break;
                case Tokens.FIRST_SETTING + FADE:
                    readSetting(FADE, 0, 100);
                    break;
                case Tokens.FIRST_SETTING + SEED:
                    readSetting(SEED, 0, 99999);
                    break;
                case Tokens.LAW:
                    readLaw();
                    break;
                default:
                    fail(MISPLACED);
                    break;
            }
        }

        private void takeLineEnd() {
            if (fault != 0) {
                return;
            }
            if (!tokens.isSign(Tokens.LINE_END)) {
                fail(MISPLACED);
                return;
            }
            tokens.step();
            told.lines++;
        }

        /** The word of a line of which there may be so many. */
        private void takeLineWord(int already, int most) {
            if (already >= most) {
                fail(TOO_MUCH);
                return;
            }
            tokens.step();
        }

        private int lookNumber(int least, int most) {
            if (fault != 0) {
                return least;
            }
            if (tokens.sort != Tokens.NUMBER) {
                fail(MISPLACED);
            } else if (!isWithin(tokens.value, least, most)) {
                fail(TOO_MUCH);
            }
            return fault == 0 ? tokens.value : least;
        }

        private int takeNumber(int least, int most) {
            int number = lookNumber(least, most);
            if (fault == 0) {
                tokens.step();
            }
            return number;
        }

        /** A name that must be new or, where a house is spoken of, one that is told. */
        private int takeName(boolean isNew) {
            if (fault != 0) {
                return 0;
            }
            int letters = tokens.value;
            if (tokens.sort != Tokens.NAME) {
                fail(MISPLACED);
            } else if (isNew && told.houseOf(letters) != NONE) {
                fail(TOLD_ALREADY);
            } else if (!isNew && told.houseOf(letters) == NONE) {
                fail(NOT_TOLD);
            } else {
                tokens.step();
            }
            return letters;
        }

        private void readHouse() {
            takeLineWord(told.houses, MOST_HOUSES);
            int letters = takeName(true);
            int dial = takeNumber(0, LAST_DIAL);
            int gain = takeNumber(0, LAST_GAIN);
            if (fault == 0) {
                told.addHouse(letters, dial, gain);
            }
        }

        private void readTurn() {
            takeLineWord(told.turns, MOST_TURNS);
            int house = told.houseOf(takeName(false));
            int hour = takeNumber(0, LAST_TOLD_HOUR);
            int dial = takeNumber(0, LAST_DIAL);
            if (fault == 0) {
                told.addTurn(house, hour, dial);
            }
        }

        private void readSound() {
            takeLineWord(told.sounds, MOST_SOUNDS);
            int house = told.houseOf(takeName(false));
            int hour = lookNumber(0, LAST_TOLD_HOUR);
            if (fault == 0 && told.kindAt(house, hour) != 0) {
                fail(TOLD_ALREADY);
            }
            if (fault == 0) {
                tokens.step();
            }
            int kind = takeNumber(1, LAST_KIND);
            if (fault == 0) {
                told.addSound(house, hour, kind);
            }
        }

        private void readSetting(int which, int least, int most) {
            if (told.isSet[which]) {
                fail(TOLD_ALREADY);
                return;
            }
            tokens.step();
            int number = takeNumber(least, most);
            if (fault == 0) {
                told.isSet[which] = true;
                told.settings[which] = number;
            }
        }

        private void readLaw() {
            tokens.step();
            int which = tokens.sort == Tokens.WORD ? tokens.value - Tokens.FIRST_LAW : NONE;
            if (!isWithin(which, 0, LAWS - 1)) {
                fail(MISPLACED);
                return;
            }
            law = told.laws[which];
            if (law.size > 0) {
                fail(TOLD_ALREADY);
                return;
            }
            tokens.step();
            waiting = 0;
            open = 0;
            boolean goesOn = true;
            // a part and what stands behind it take one token each
            for (int i = 0; i <= TAPE_LENGTH && goesOn; i++) {
                readPart();
                goesOn = fault == 0 && readBehindPart();
            }
            layAside(1);
        }

        /** All that may stand ahead of a number or a name, and that. */
        private void readPart() {
            for (int i = 0; i <= TAPE_LENGTH && fault == 0 && isAheadOfPart(); i++) {
                if (tokens.isSign(Tokens.OPEN)) {
                    takeOpen();
                } else {
                    takeKnot();
                    putAside(Sum.NOT);
                }
            }
            if (fault != 0) {
                return;
            }
            boolean isName = tokens.sort == Tokens.WORD && tokens.value >= Tokens.FIRST_NAME;
            int knot = isName ? Law.FIRST_NAME + tokens.value - Tokens.FIRST_NAME : lookNumber(0, LAST_NUMBER);
            if (fault == 0) {
                takeKnot();
                law.add(knot);
            }
        }

        /** A not stands only where no comparison, sum or product has begun. */
        private boolean isAheadOfPart() {
            return tokens.isSign(Tokens.OPEN) || (tokens.isWord(Tokens.NOT) && rankAside() <= RANK_NOT);
        }

        /** The ')' behind a part and the sign that joins it with another one; false: the E ends here. */
        private boolean readBehindPart() {
            for (int i = 0; i <= MOST_OPEN && open > 0 && tokens.isSign(Tokens.CLOSE); i++) {
                layAside(1);
                waiting--;
                open--;
                tokens.step();
            }
            int sign = signHere();
            if (sign == NONE) {
                if (open > 0) {
                    fail(MISPLACED);
                }
                return false;
            }
            int rank = RANKS[sign];
            layAside(rank == RANK_COMPARED ? rank + 1 : rank);
            if (rank == RANK_COMPARED && rankAside() == RANK_COMPARED) {
                fail(MISPLACED);
                return false;
            }
            takeKnot();
            putAside(sign);
            return fault == 0;
        }

        private int signHere() {
            if (tokens.isWord(Tokens.OR)) {
                return Sum.OR;
            }
            if (tokens.isWord(Tokens.AND)) {
                return Sum.AND;
            }
            boolean joins = tokens.sort == Tokens.SIGN && isWithin(tokens.value, Sum.LESS, Sum.BY);
            return joins ? tokens.value : NONE;
        }

        private void takeOpen() {
            if (open >= MOST_OPEN) {
                fail(TOO_MUCH);
                return;
            }
            open++;
            putAside(Tokens.OPEN);
            tokens.step();
        }

        /** Counts the token as a knot and goes past it. */
        private void takeKnot() {
            if (told.knots >= MOST_KNOTS) {
                fail(TOO_MUCH);
                return;
            }
            told.knots++;
            tokens.step();
        }

        private int rankAside() {
            return waiting > 0 ? RANKS[aside[waiting - 1]] : 0;
        }

        private void putAside(int sign) {
            if (waiting < aside.length) {
                aside[waiting] = sign;
                waiting++;
            }
        }

        /** Lays the signs that bind so close at least behind what they join; a '(' (rank 0) stays. */
        private void layAside(int rank) {
            while (waiting > 0 && rankAside() >= rank) {
                waiting--;
                law.add(Law.FIRST_SIGN + aside[waiting]);
            }
        }
    }

    // ---- how it stands at an hour ----

    private static final class State {
        final int[] dial = new int[MOST_HOUSES];
        final int[] gain = new int[MOST_HOUSES];
        final int[] knows = new int[MOST_HOUSES];
        final int[] kind = new int[MOST_HOUSES];
        private final int[] times = new int[MOST_HOUSES * MOST_HOUSES];
        int hour;
        int number;

        /** Houses that aren't told stand at 0 in everything, so sums need not leave them out. */
        void begin(Told told) {
            for (int i = 0; i < MOST_HOUSES; i++) {
                boolean isTold = i < told.houses;
                dial[i] = isTold ? told.dial[i] : 0;
                gain[i] = isTold ? told.gain[i] : 0;
                knows[i] = 0;
                kind[i] = 0;
            }
            for (int i = 0; i < times.length; i++) {
                times[i] = 0;
            }
            hour = 0;
            number = told.settings[SEED];
        }

        void copy(State other) {
            for (int i = 0; i < MOST_HOUSES; i++) {
                dial[i] = other.dial[i];
                gain[i] = other.gain[i];
                knows[i] = other.knows[i];
                kind[i] = other.kind[i];
            }
            System.arraycopy(other.times, 0, times, 0, times.length);
            hour = other.hour;
            number = other.number;
        }

        void strengthen(int houses) {
            for (int i = 0; i < houses; i++) {
                gain[i] = LAST_GAIN;
            }
        }

        int apart(int one, int other) {
            return Math.abs(dial[one] - dial[other]);
        }

        int timesHeard(int one, int other) {
            return times[one * MOST_HOUSES + other];
        }

        void hear(int one, int other, int ofKind) {
            int at = one * MOST_HOUSES + other;
            times[at] = Math.min(MOST_HEARD, times[at] + 1);
            kind[one] = ofKind;
        }

        boolean isKnown(int one, int other) {
            return (knows[one] >> other & 1) == 1;
        }

        int knowersOf(int house) {
            int knowers = 0;
            for (int i = 0; i < MOST_HOUSES; i++) {
                if (isKnown(i, house)) {
                    knowers |= 1 << i;
                }
            }
            return knowers;
        }

        int firstTwo(int houses) {
            for (int one = 0; one < houses; one++) {
                for (int other = one + 1; other < houses; other++) {
                    if (isKnown(one, other) && isKnown(other, one)) {
                        return 10 * one + other;
                    }
                }
            }
            return NONE;
        }

        int pairs() {
            int pairs = 0;
            for (int i = 0; i < MOST_HOUSES; i++) {
                pairs += Integer.bitCount(knows[i]);
            }
            return pairs;
        }

        int heardInAll() {
            int all = 0;
            for (int i = 0; i < times.length; i++) {
                all += times[i];
            }
            return all;
        }

        int gainOfAll() {
            int all = 0;
            for (int i = 0; i < MOST_HOUSES; i++) {
                all += gain[i];
            }
            return all;
        }

        int housesAbout(int at, int reach, int houses) {
            int about = 0;
            for (int i = 0; i < houses; i++) {
                if (Math.abs(dial[i] - at) <= reach) {
                    about++;
                }
            }
            return about;
        }

        int nextNumber() {
            number = (number * 1103515245 + 12345) & Integer.MAX_VALUE;
            return number / 65536;
        }
    }

    // ---- how hours go by ----

    private static final class Hours {
        static final int FADES_NEVER = 0;
        static final int FADES_SURELY = 1;
        static final int FADES_DRAWN = 2;

        private static final int CERTAIN = 100;
        private static final int LIKELY = 50;
        private static final int MOST_DRIFT = 9;
        private static final int MOST_NEEDED = 99;

        Told told;
        int near;
        int fading;
        boolean drifts;
        boolean turns;
        int silent;
        private final Sum sum = new Sum();

        Hours(Told first) {
            told = first;
        }

        private void asTold() {
            near = told.settings[NEAR];
            drifts = true;
            turns = true;
            silent = NONE;
        }

        void asItGoes() {
            asTold();
            fading = told.settings[FADE] >= LIKELY ? FADES_SURELY : FADES_NEVER;
        }

        void asDrawn() {
            asTold();
            int fade = told.settings[FADE];
            fading = fade == 0 ? FADES_NEVER : fade == CERTAIN ? FADES_SURELY : FADES_DRAWN;
        }

        void pass(State state, int n) {
            for (int i = 0; i < n; i++) {
                if (state.hour <= LAST_TOLD_HOUR) {
                    turnDials(state);
                    soundInRooms(state);
                }
                if (drifts && told.laws[DRIFT].size > 0) {
                    driftDials(state);
                }
                if (fading != FADES_NEVER) {
                    fadeValves(state);
                }
                state.hour++;
            }
        }

        private void turnDials(State state) {
            for (int i = 0; turns && i < told.turns; i++) {
                if (told.turnHour[i] == state.hour) {
                    state.dial[told.turnHouse[i]] = told.turnDial[i];
                }
            }
        }

        private void soundInRooms(State state) {
            for (int i = 0; i < told.sounds; i++) {
                if (told.soundHour[i] == state.hour && told.soundHouse[i] != silent) {
                    soundMade(state, told.soundHouse[i], told.soundKind[i]);
                }
            }
        }

        int soundMade(State state, int house, int kind) {
            int hearers = 0;
            for (int i = 0; i < told.houses; i++) {
                if (i != house && doesHear(state, i, house)) {
                    hearers |= 1 << i;
                    state.hear(i, house, kind);
                    if (state.timesHeard(i, house) >= needed(state, i, house, kind)) {
                        state.knows[i] |= 1 << house;
                    }
                }
            }
            return hearers;
        }

        private void driftDials(State state) {
            for (int i = 0; i < told.houses; i++) {
                lookAt(state, i, 0, 0, 0);
                if (sum.isWorkedOut(told.laws[DRIFT])) {
                    int dial = state.dial[i] + cutTo(sum.value, -MOST_DRIFT, MOST_DRIFT);
                    state.dial[i] = cutTo(dial, 0, LAST_DIAL);
                }
            }
        }

        private void fadeValves(State state) {
            for (int i = 0; i < told.houses; i++) {
                boolean fades = fading == FADES_SURELY || state.nextNumber() % CERTAIN < told.settings[FADE];
                if (fades && state.gain[i] > 0) {
                    state.gain[i]--;
                }
            }
        }

        boolean doesHear(State state, int one, int other) {
            int far = state.apart(one, other);
            int reach = near + state.gain[one];
            if (told.laws[REACH].size > 0) {
                lookAt(state, one, far, 0, state.timesHeard(one, other));
                if (sum.isWorkedOut(told.laws[REACH])) {
                    reach = cutTo(sum.value, 0, LAST_DIAL);
                }
            }
            return far <= reach;
        }

        int heardBy(State state, int house) {
            int set = 0;
            for (int i = 0; i < told.houses; i++) {
                if (i != house && doesHear(state, house, i)) {
                    set |= 1 << i;
                }
            }
            return set;
        }

        int hearersOf(State state, int house) {
            int set = 0;
            for (int i = 0; i < told.houses; i++) {
                if (i != house && doesHear(state, i, house)) {
                    set |= 1 << i;
                }
            }
            return set;
        }

        /** How often one must have heard the other to know it, when this sound is heard. */
        private int needed(State state, int one, int other, int kind) {
            lookAt(state, one, state.apart(one, other), kind, state.timesHeard(one, other));
            return sum.isWorkedOut(told.laws[LEARN]) ? cutTo(sum.value, 1, MOST_NEEDED) : told.settings[OFTEN];
        }

        long lawNow(State state, int which, int one, int other) {
            lookAt(state, one, state.apart(one, other), 0, state.timesHeard(one, other));
            return plainly(which);
        }

        long driftNow(State state, int house) {
            lookAt(state, house, 0, 0, 0);
            return plainly(DRIFT);
        }

        private void lookAt(State state, int house, int far, int kind, int times) {
            sum.names[0] = state.dial[house];
            sum.names[1] = state.gain[house];
            sum.names[2] = far;
            sum.names[3] = kind;
            sum.names[4] = times;
            sum.names[5] = Integer.bitCount(state.knows[house]);
            sum.names[6] = state.hour;
        }

        private long plainly(int which) {
            return sum.isWorkedOut(told.laws[which]) ? sum.value : Long.MIN_VALUE;
        }

        private static int cutTo(long number, int least, int most) {
            return number < least ? least : number > most ? most : (int) number;
        }
    }

    // ---- looking for dials ----

    /** Each search moves the dials of the state that it is given. */
    private static final class Places {
        static final int SPREAD_HOUSES = 4;
        private static final int SPREAD_DIALS = 10;
        private static final int SPREAD_STEP = 11;
        private static final int SPREAD_ALL = SPREAD_HOUSES * SPREAD_DIALS;

        private final Hours hours;
        private final boolean[] isOnesOwn = new boolean[LAST_DIAL + 1];
        private final boolean[] isOthersOwn = new boolean[LAST_DIAL + 1];
        private final boolean[] isApart = new boolean[SPREAD_ALL * SPREAD_ALL];
        private final int[] from = new int[SPREAD_HOUSES];
        private final int[] trial = new int[SPREAD_HOUSES];
        private int houses;
        final int[] chosen = new int[SPREAD_HOUSES];
        int fewest;

        Places(Hours hours) {
            this.hours = hours;
        }

        boolean findPrivate(State state, int one, int other) {
            int oneFrom = state.dial[one];
            int otherFrom = state.dial[other];
            markOwn(state, one, other, isOnesOwn);
            markOwn(state, other, one, isOthersOwn);
            for (int steps = 0; steps <= 2 * LAST_DIAL; steps++) {
                int last = Math.min(LAST_DIAL, oneFrom + steps);
                for (int dial = Math.max(0, oneFrom - steps); dial <= last; dial++) {
                    int left = steps - Math.abs(dial - oneFrom);
                    state.dial[one] = dial;
                    if (isOnesOwn[dial] && (isPrivate(state, one, other, otherFrom - left)
                            || isPrivate(state, one, other, otherFrom + left))) {
                        chosen[0] = dial;
                        chosen[1] = state.dial[other];
                        fewest = steps;
                        return true;
                    }
                }
            }
            return false;
        }

        /** The dials at which a house has nothing to do with any but one. */
        private void markOwn(State state, int house, int but, boolean[] isOwn) {
            int dial = state.dial[house];
            for (int i = 0; i <= LAST_DIAL; i++) {
                state.dial[house] = i;
                isOwn[i] = !isMet(state, house, but);
            }
            state.dial[house] = dial;
        }

        private boolean isMet(State state, int house, int but) {
            for (int i = 0; i < hours.told.houses; i++) {
                if (i != house && i != but
                        && (hours.doesHear(state, house, i) || hours.doesHear(state, i, house))) {
                    return true;
                }
            }
            return false;
        }

        private boolean isPrivate(State state, int one, int other, int dial) {
            if (!isWithin(dial, 0, LAST_DIAL) || !isOthersOwn[dial]) {
                return false;
            }
            state.dial[other] = dial;
            return hours.doesHear(state, one, other) && hours.doesHear(state, other, one);
        }

        boolean findSpread(State state) {
            houses = Math.min(SPREAD_HOUSES, hours.told.houses);
            for (int i = 0; i < houses; i++) {
                from[i] = state.dial[i];
            }
            for (int one = 0; one < houses; one++) {
                for (int other = one + 1; other < houses; other++) {
                    markApart(state, one, other);
                }
            }
            fewest = Integer.MAX_VALUE;
            place(0, 0);
            return fewest != Integer.MAX_VALUE;
        }

        private void markApart(State state, int one, int other) {
            for (int i = 0; i < SPREAD_DIALS; i++) {
                for (int k = 0; k < SPREAD_DIALS; k++) {
                    state.dial[one] = i * SPREAD_STEP;
                    state.dial[other] = k * SPREAD_STEP;
                    isApart[pairAt(one, i, other, k)] =
                        !hours.doesHear(state, one, other) && !hours.doesHear(state, other, one);
                }
            }
        }

        private static int pairAt(int one, int oneDial, int other, int otherDial) {
            return (one * SPREAD_DIALS + oneDial) * SPREAD_ALL + other * SPREAD_DIALS + otherDial;
        }

        /** Four levels deep at most: one for each house. */
        private void place(int house, int steps) {
            if (steps >= fewest) {
                return;
            }
            if (house >= houses) {
                fewest = steps;
                for (int i = 0; i < houses; i++) {
                    chosen[i] = trial[i] * SPREAD_STEP;
                }
                return;
            }
            for (int i = 0; i < SPREAD_DIALS; i++) {
                trial[house] = i;
                if (isApartFromThoseBefore(house)) {
                    place(house + 1, steps + Math.abs(i * SPREAD_STEP - from[house]));
                }
            }
        }

        private boolean isApartFromThoseBefore(int house) {
            for (int i = 0; i < house; i++) {
                if (!isApart[pairAt(i, trial[i], house, trial[house])]) {
                    return false;
                }
            }
            return true;
        }

        int findHidden(State state, int house) {
            int dial = state.dial[house];
            for (int steps = 0; steps <= LAST_DIAL; steps++) {
                if (isHidden(state, house, dial - steps)) {
                    return dial - steps;
                }
                if (isHidden(state, house, dial + steps)) {
                    return dial + steps;
                }
            }
            return NOT_SO;
        }

        private boolean isHidden(State state, int house, int dial) {
            if (!isWithin(dial, 0, LAST_DIAL)) {
                return false;
            }
            state.dial[house] = dial;
            return !isMet(state, house, house);
        }

        int findLure(State state, int one, int other) {
            int dial = state.dial[one];
            int best = NOT_SO;
            int least = MOST_HOUSES + 1;
            for (int steps = 0; steps <= LAST_DIAL && least > 1; steps++) {
                int below = luredBy(state, one, other, dial - steps);
                if (below < least) {
                    least = below;
                    best = dial - steps;
                }
                int above = luredBy(state, one, other, dial + steps);
                if (above < least) {
                    least = above;
                    best = dial + steps;
                }
            }
            return best;
        }

        /** How many hear the house there; more than there are, if the one who should doesn't. */
        private int luredBy(State state, int one, int other, int dial) {
            if (!isWithin(dial, 0, LAST_DIAL)) {
                return MOST_HOUSES + 1;
            }
            state.dial[one] = dial;
            int hearers = hours.hearersOf(state, one);
            return (hearers >> other & 1) == 1 ? Integer.bitCount(hearers) : MOST_HOUSES + 1;
        }
    }

    // ---- what can be undone ----

    private static final class Undos {
        private final State[] states = new State[MOST_UNDOS];
        private int next;
        int size;

        Undos() {
            for (int i = 0; i < MOST_UNDOS; i++) {
                states[i] = new State();
            }
        }

        void clear() {
            size = 0;
        }

        void push(State state) {
            states[next].copy(state);
            next = (next + 1) % MOST_UNDOS;
            size = Math.min(MOST_UNDOS, size + 1);
        }

        boolean pop(State state) {
            if (size == 0) {
                return false;
            }
            next = (next + MOST_UNDOS - 1) % MOST_UNDOS;
            size--;
            state.copy(states[next]);
            return true;
        }
    }

    // ---- notes, sights and strikes ----

    private static final class Notes {
        static final int NOTE = 0;
        static final int SIGHT = 1;
        static final int STRIKE = 2;

        private final int[] sort = new int[MOST_NOTES];
        /** A note's or sight's hours, a strike's number. */
        private final int[] at = new int[MOST_NOTES];
        /** A note's kind, a sight's first house. */
        private final int[] one = new int[MOST_NOTES];
        private final int[] other = new int[MOST_NOTES];
        private final boolean[] is = new boolean[MOST_NOTES];
        private final boolean[] counts = new boolean[MOST_NOTES];
        int size;
        int by = NONE;

        void clear() {
            size = 0;
            by = NONE;
        }

        int add(int what, int when, int first, int second, boolean so) {
            if (size >= MOST_NOTES) {
                return NONE;
            }
            sort[size] = what;
            at[size] = when;
            one[size] = first;
            other[size] = second;
            is[size] = so;
            size++;
            return size - 1;
        }

        int counted() {
            return by == NONE ? size : by;
        }

        /** From the last one on, since a strike is only struck by a later one. */
        void settle() {
            int n = counted();
            for (int i = 0; i < size; i++) {
                counts[i] = i < n;
            }
            for (int i = n - 1; i >= 0; i--) {
                if (counts[i] && sort[i] == STRIKE) {
                    counts[at[i]] = false;
                }
            }
        }

        boolean mayBe(Told told, int house) {
            for (int i = 0; i < size; i++) {
                if (counts[i] && sort[i] == NOTE && (told.kindAt(house, at[i]) == one[i]) != is[i]) {
                    return false;
                }
            }
            return true;
        }

        int lastSight() {
            int last = 0;
            for (int i = 0; i < size; i++) {
                if (counts[i] && sort[i] == SIGHT) {
                    last = Math.max(last, at[i]);
                }
            }
            return last;
        }

        boolean isSeen(State state, int hours) {
            for (int i = 0; i < size; i++) {
                if (counts[i] && sort[i] == SIGHT && at[i] == hours
                        && state.isKnown(one[i], other[i]) != is[i]) {
                    return false;
                }
            }
            return true;
        }
    }
}
