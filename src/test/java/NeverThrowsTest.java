import java.lang.reflect.InvocationTargetException;
import java.lang.reflect.Method;
import java.lang.reflect.Modifier;
import java.util.Arrays;
import java.util.Comparator;

/** Each call of the face with numbers from end to end, all against all, on objects of several kinds: none throws but house(). */
public final class NeverThrowsTest {
    private static final int[] FEW = {Integer.MIN_VALUE, -1, 0, 1, 5, 6, 99, Integer.MAX_VALUE};
    private static final int[] MANY = {Integer.MIN_VALUE, Integer.MIN_VALUE + 1, -100, -2, -1, 0, 1, 2, 3, 4, 5, 6, 7, 9, 10,
        11, 23, 24, 25, 31, 32, 60, 61, 63, 64, 99, 100, 700, 701, 9000, 9001, 65536, Integer.MAX_VALUE - 1,
        Integer.MAX_VALUE};
    private static final int CALLS_OF_ONE = 100;

    private static int wrong;
    private static int called;
    private static StaticDial dial;

    private static StaticDial kind(int which) {
        String six = "house a 0 9;house b 99 0;house c 50 5;house d 52 1;house e 49 0;house f 0 0;";
        switch (which) {
            case 0:
                return new StaticDial();
            case 1:
                return Check.told("house a 99 9;fade 100;law drift 0 - 9;");
            case 2:
                StaticDial x = Check.told(six + "sound a 0 1;sound f 99 9;turn c 99 0;fade 50;seed 99999;near 20;often 9;"
                    + "law reach 99 / (far - 2);law learn heard * 1000 * 1000 * 1000 * 1000;law drift 9 / (hour - 3);");
                fill(x);
                return x;
            default:
                StaticDial y = Check.told(six + "fade 99;law reach 0 - 1;");
                fill(y);
                for (int i = 0; i < 91; i++) {
                    y.go(Math.min(99, 9000 - y.count(4)));
                }
                return y;
        }
    }

    /** Notes, sights and strikes, an image and what can be undone, all to the brim. */
    private static void fill(StaticDial x) {
        for (int i = 0; i < 24; i++) {
            int number = i % 3 == 0 ? x.note(i, 0, true) : i % 3 == 1 ? x.see(60 - i, 0, 5, false) : x.strike(i - 1);
            if (number != i) {
                throw new IllegalStateException("note " + i + " is " + number);
            }
            x.turn(i % 6, 30 + i);
        }
        x.keep();
    }

    private static void call(Method method, Object[] args, int which) throws IllegalAccessException {
        if (called % CALLS_OF_ONE == 0) {
            dial = kind(which);
        }
        called++;
        try {
            method.invoke(dial, args);
        } catch (InvocationTargetException e) {
            String thrown = e.getCause().getClass().getName();
            boolean mayBe = method.getName().equals("house") && (thrown.equals("java.lang.IndexOutOfBoundsException")
                || thrown.equals("java.util.NoSuchElementException"));
            if (!mayBe) {
                wrong++;
                System.out.println(method.getName() + Arrays.toString(args) + " of kind " + which + " throws " + thrown);
            }
        }
    }

    private static void allAgainstAll(Method method, Object[] args, int at, int which) throws IllegalAccessException {
        if (at == args.length) {
            call(method, args, which);
        } else if (method.getParameterTypes()[at] == boolean.class) {
            for (boolean is : new boolean[] {false, true}) {
                args[at] = is;
                allAgainstAll(method, args, at + 1, which);
            }
        } else {
            for (int number : args.length > 2 ? FEW : MANY) {
                args[at] = number;
                allAgainstAll(method, args, at + 1, which);
            }
        }
    }

    public static void main(String[] args) throws IllegalAccessException {
        Method[] face = StaticDial.class.getDeclaredMethods();
        Arrays.sort(face, Comparator.comparing(Method::getName));
        for (int which = 0; which <= 3; which++) {
            for (Method method : face) {
                if (Modifier.isPublic(method.getModifiers()) && !method.getName().equals("feed")) {
                    called = 0;
                    allAgainstAll(method, new Object[method.getParameterCount()], 0, which);
                }
            }
        }
        System.out.println(wrong == 0 ? "nothing is thrown" : wrong + " calls throw");
        if (wrong != 0) {
            System.exit(1);
        }
    }
}
