import java.lang.reflect.InvocationTargetException;
import java.lang.reflect.Method;
import java.lang.reflect.Modifier;
import java.nio.charset.StandardCharsets;
import java.util.ArrayList;
import java.util.Arrays;
import java.util.Comparator;
import java.util.HashMap;
import java.util.List;
import java.util.Map;
import java.util.Random;

/** Random runs of calls, each answered by StaticDial and by the slow Oracle alike. */
public final class RandomRunsTest {
    private static final int RUNS = Integer.getInteger("runs", 400);
    private static final long FROM = Long.getLong("from", 1L);

    private static final Map<String, Method> ORACLE = new HashMap<>();
    private static final List<Method> FACE = new ArrayList<>();
    private static int wrong;
    private static final Map<String, Integer> ANSWERED = new HashMap<>();

    private final Random random;
    private final StaticDial dial = new StaticDial();
    private final Oracle oracle = new Oracle();
    private final List<String> calls = new ArrayList<>();
    private int left = 512;

    private RandomRunsTest(long seed) {
        random = new Random(seed);
    }

    private static Object answer(Method method, Object on, Object... args) throws IllegalAccessException {
        try {
            return method.invoke(on, args);
        } catch (InvocationTargetException e) {
            return "throws " + e.getCause().getClass().getSimpleName();
        }
    }

    private boolean call(Method method, Object... args) throws IllegalAccessException {
        left--;
        Object got = answer(method, dial, args);
        Object due = answer(ORACLE.get(method.getName()), oracle, args);
        String told = method.getName() + Arrays.toString(args) + " = " + got;
        calls.add(told);
        if (!(got instanceof Integer i && i == -1) && !got.equals(false)) {
            ANSWERED.merge(method.getName(), 1, Integer::sum);
        }
        if (!got.equals(due)) {
            wrong++;
            System.out.println("due is " + due + ", but:");
            calls.subList(Math.max(0, calls.size() - 30), calls.size()).forEach(System.out::println);
        }
        return got.equals(due);
    }

    private static Method face(String name) {
        return FACE.stream().filter(m -> m.getName().equals(name)).findFirst().orElseThrow();
    }

    private boolean tell(String text) throws IllegalAccessException {
        byte[] bytes = Arrays.copyOf(text.getBytes(StandardCharsets.ISO_8859_1), (text.length() + 19) / 20 * 20);
        java.nio.ByteBuffer numbers = java.nio.ByteBuffer.wrap(bytes);
        calls.add(text);
        while (numbers.hasRemaining()) {
            if (!call(face("feed"), numbers.getInt(), numbers.getInt(), numbers.getInt(), numbers.getInt(),
                    numbers.getInt())) {
                return false;
            }
        }
        return call(face("text"), text.length()) && call(face("fault"), 0) && call(face("fault"), 1)
            && call(face("count"), 3);
    }

    private Object[] args(Method method) {
        Object[] args = new Object[method.getParameterCount()];
        for (int i = 0; i < args.length; i++) {
            args[i] = method.getParameterTypes()[i] == boolean.class ? (Object) random.nextBoolean()
                : (Object) number(method.getName(), i);
        }
        return args;
    }

    private int number(String name, int i) {
        if (random.nextInt(40) == 0) {
            int[] odd = {-1, -2, 6, 7, 99, 100, Integer.MAX_VALUE, Integer.MIN_VALUE, 24, 10, 9001};
            return odd[random.nextInt(odd.length)];
        }
        switch (name + i) {
            case "sound1": case "turn1": case "note0":
                return random.nextInt(random.nextBoolean() ? 100 : 12);
            case "make1": case "note1":
                return random.nextInt(random.nextBoolean() ? 10 : 3);
            case "ahead0": case "tried2": case "chance1": case "see0":
                return random.nextInt(random.nextInt(4) == 0 ? 100 : 15);
            case "go0":
                return random.nextInt(random.nextInt(12) == 0 ? 100 : 4);
            case "count0":
                return random.nextInt(12);
            case "chance0":
                return random.nextInt(2) == 0 ? random.nextInt() : random.nextInt(100);
            case "known0": case "strike0":
                return random.nextInt(8) - 1;
            case "house1": case "passed1": case "gossip1":
                return random.nextInt(7);
            case "busiest0":
                return random.nextInt(10);
            case "tried0":
                return random.nextInt(5);
            case "tried1":
                return random.nextInt(3) == 0 ? random.nextInt(4) : 0;
            case "named0":
                int[] letters = {1 << 25, 2 << 25, 3 << 25 | 1 << 20 | 20 << 15, 4 << 25 | 4 << 20, 1, 0};
                return letters[random.nextInt(letters.length)];
            case "first0": case "ask0": case "busiest1": case "before2": case "fault0":
                return random.nextInt(2);
            case "secret2": case "law0":
                return random.nextInt(3);
            case "spread0":
                return random.nextInt(5);
            default:
                return random.nextInt(5);
        }
    }

    private String text(Texts texts) {
        switch (random.nextInt(8)) {
            case 0:
                return texts.amiss();
            case 1:
                return random.nextBoolean() ? texts.words() : texts.knotty();
            default:
                return texts.sound();
        }
    }

    private boolean run() throws IllegalAccessException {
        Texts texts = new Texts(random);
        while (left > 60) {
            if (!tell(text(texts))) {
                return false;
            }
            // a few calls again and again meet one another's traces more often than all calls alike
            List<Method> often = new ArrayList<>(FACE);
            java.util.Collections.shuffle(often, random);
            for (int i = random.nextInt(90); i > 0 && left > 60; i--) {
                Method method = often.get(random.nextInt(random.nextInt(4) == 0 ? often.size() : 8));
                boolean disturbs = method.getName().equals("feed") || method.getName().equals("text");
                if (!(disturbs && random.nextInt(20) != 0) && !call(method, args(method))) {
                    return false;
                }
                // the tape must be empty where the next text is fed
                if (method.getName().equals("feed") && !call(face("text"), 0)) {
                    return false;
                }
            }
        }
        return true;
    }

    public static void main(String[] args) throws IllegalAccessException {
        for (Method method : Oracle.class.getDeclaredMethods()) {
            if (!Modifier.isPrivate(method.getModifiers()) && !Modifier.isStatic(method.getModifiers())) {
                ORACLE.put(method.getName(), method);
            }
        }
        for (Method method : StaticDial.class.getDeclaredMethods()) {
            if (Modifier.isPublic(method.getModifiers())) {
                FACE.add(method);
            }
        }
        FACE.sort(Comparator.comparing(Method::getName));
        for (long seed = FROM; seed < FROM + RUNS && wrong < 3; seed++) {
            if (!new RandomRunsTest(seed).run()) {
                System.out.println("seed " + seed);
            }
        }
        for (Method method : FACE) {
            if (ANSWERED.getOrDefault(method.getName(), 0) < RUNS / 10) {
                System.out.println(method.getName() + " was hardly asked: " + ANSWERED.get(method.getName()));
                wrong++;
            }
        }
        System.out.println(wrong == 0 ? "all answers are alike" : wrong + " answers are not alike");
        if (wrong != 0) {
            System.exit(1);
        }
    }
}
