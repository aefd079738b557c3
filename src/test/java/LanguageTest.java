import java.io.IOException;
import java.lang.reflect.Field;
import java.lang.reflect.Method;
import java.lang.reflect.Modifier;
import java.nio.file.Files;
import java.nio.file.Path;
import java.util.Arrays;
import java.util.List;
import java.util.Set;
import java.util.TreeSet;
import java.util.regex.Matcher;
import java.util.regex.Pattern;
import java.util.stream.Collectors;

/** The face of the class, and of ../shared/LANGUAGE.md what can be seen without reading the code as a person does. */
public final class LanguageTest {
    private static final String SOURCE = "src/main/java/StaticDial.java";
    private static final String FACE = "feed5 text1 fault1 named1 house2 heard2 sound2 law3 turn2 make2 valve1 go1 ahead3 "
        + "first1 secret3 spread1 whose0 ask1 passed2 before3 warn0 busiest2 rests1 rest2 alone0 code2 hide1 gossip2 "
        + "loudest0 nextHeard2 lure2 note3 see4 strike1 known1 nears0 chance4 tried3 undo0 keep0 back0 count1";
    private static final List<String> FORBIDDEN = List.of("->", "::", "\\btry\\b", "\\bcatch\\b", "\\bfinally\\b",
        "Exact\\(", "static \\{", "\\bsynchronized\\b", "\\bassert\\b", "\\bdouble\\b", "\\bfloat\\b", "\\bprotected\\b",
        "System\\.(?!arraycopy)", "\" \\+", "\\+ \"", "\\bvar\\b", "java\\.(?!util\\.NoSuchElementException;)",
        "\\bObject\\b", "\\bThread\\b", "getClass", "hashCode", "toString", "instanceof");

    private static int wrong;

    private static void due(String what, boolean is) {
        if (!is) {
            wrong++;
            System.out.println(what);
        }
    }

    public static void main(String[] args) throws IOException {
        face();
        nested();
        source(Files.readString(Path.of(SOURCE)));
        System.out.println(wrong == 0 ? "the class keeps to the rules" : wrong + " rules are broken");
        if (wrong != 0) {
            System.exit(1);
        }
    }

    private static void face() {
        Set<String> want = new TreeSet<>(Arrays.asList(FACE.split(" ")));
        Set<String> got = new TreeSet<>();
        Set<String> hidden = new TreeSet<>();
        for (Method m : StaticDial.class.getDeclaredMethods()) {
            if (Modifier.isPrivate(m.getModifiers())) {
                hidden.add(m.getName());
            } else {
                due(m + " is not public", Modifier.isPublic(m.getModifiers()) && !Modifier.isStatic(m.getModifiers()));
                got.add(m.getName() + m.getParameterCount());
            }
        }
        due("the face is " + got, got.equals(want));
        Set<String> names = got.stream().map(s -> s.replaceAll("\\d", "")).collect(Collectors.toSet());
        hidden.retainAll(names);
        due("private methods named as public ones: " + hidden, hidden.isEmpty());
        for (Field f : StaticDial.class.getDeclaredFields()) {
            boolean isNone = f.getName().equals("NONE");
            due(f + " can be seen", isNone || Modifier.isPrivate(f.getModifiers()));
            due(f + " is static, but not final", !Modifier.isStatic(f.getModifiers()) || Modifier.isFinal(f.getModifiers()));
        }
        due("the class is public and final", Modifier.isPublic(StaticDial.class.getModifiers())
            && Modifier.isFinal(StaticDial.class.getModifiers()));
        due("its constructors", StaticDial.class.getDeclaredConstructors().length == 1);
    }

    private static void nested() {
        Class<?>[] classes = StaticDial.class.getDeclaredClasses();
        due("too many classes", classes.length < 12);
        Set<String> face = Arrays.stream(FACE.split(" ")).map(s -> s.replaceAll("\\d", "")).collect(Collectors.toSet());
        for (Class<?> c : classes) {
            due(c + " is not private and static", Modifier.isStatic(c.getModifiers()) && Modifier.isPrivate(c.getModifiers()));
            long fields = Arrays.stream(c.getDeclaredFields()).filter(f -> !Modifier.isStatic(f.getModifiers())).count();
            due(c + " has too many fields", fields <= 20);
            for (Method m : c.getDeclaredMethods()) {
                due(m + " bears a name of the face", !face.contains(m.getName()));
                due(m + " takes too much", m.getParameterCount() <= 7);
            }
        }
    }

    private static void source(String source) {
        String code = source.replaceAll("(?s)/\\*.*?\\*/", "").replaceAll("//[^\n]*", "");
        for (String forbidden : FORBIDDEN) {
            Matcher m = Pattern.compile(forbidden).matcher(code);
            due(forbidden + " stands in the source", !m.find());
        }
        due("signs beyond 127", source.chars().allMatch(c -> c < 128));
        Matcher method = Pattern.compile("(?m)^( {4}| {8})[a-z][^;=\n]*\\([^;\n]*\\{\n(.*\n)*?\\1\\}").matcher(code);
        while (method.find()) {
            due(method.group().lines().findFirst().orElse("") + " is long", method.group().lines().count() <= 60);
        }
    }
}
