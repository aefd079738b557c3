import java.io.IOException;
import java.io.InputStream;
import java.nio.file.FileSystems;
import java.nio.file.Files;
import java.nio.file.Path;
import java.nio.file.PathMatcher;
import java.util.ArrayList;
import java.util.Comparator;
import java.util.List;
import java.util.regex.Matcher;
import java.util.regex.Pattern;
import java.util.stream.Stream;

/** What README.md says works: its example answers as it says, its commands end well, the files and calls it names are there. */
public final class ReadmeTest {
    private static final Pattern BLOCK = Pattern.compile("(?s)```(\\w+)\n(.*?)```");
    private static final Pattern ANSWERED = Pattern.compile("(?m)^(dial\\..*\\));\\s*// (-?\\d+)\\b.*$");
    private static final Pattern QUOTED = Pattern.compile("`([^`\n]+)`");

    private static int wrong;

    private static void due(String what, boolean is) {
        if (!is) {
            wrong++;
            System.out.println(what);
        }
    }

    public static void main(String[] args) throws IOException, InterruptedException {
        String readme = Files.readString(Path.of("README.md"));
        Path room = Files.createTempDirectory("readme");
        try {
            Path checkout = copied(room);
            example(block(readme, "java").get(0), checkout);
            commands(block(readme, "sh"), checkout);
            named(BLOCK.matcher(readme).replaceAll(""));
        } finally {
            removed(room);
        }
        System.out.println(wrong == 0 ? "README.md holds" : wrong + " sayings of README.md don't hold");
        if (wrong != 0) {
            System.exit(1);
        }
    }

    private static List<String> block(String readme, String sort) {
        List<String> blocks = new ArrayList<>();
        Matcher m = BLOCK.matcher(readme);
        while (m.find()) {
            if (m.group(1).equals(sort)) {
                blocks.add(m.group(2));
            }
        }
        due("README.md has no " + sort, !blocks.isEmpty());
        return blocks;
    }

    /** The commands may write into the checkout, so they run in another one. */
    private static Path copied(Path room) throws IOException {
        Path checkout = Files.createDirectory(room.resolve("checkout"));
        try (Stream<Path> files = Files.walk(Path.of("src"))) {
            for (Path file : files.toList()) {
                Files.copy(file, checkout.resolve(file.toString()));
            }
        }
        return checkout;
    }

    private static void removed(Path room) throws IOException {
        try (Stream<Path> files = Files.walk(room)) {
            for (Path file : files.sorted(Comparator.reverseOrder()).toList()) {
                Files.delete(file);
            }
        }
    }

    private static boolean endsWell(Path in, String command) throws IOException, InterruptedException {
        Process process = new ProcessBuilder("bash", "-e", "-c", command).directory(in.toFile())
            .redirectErrorStream(true).start();
        process.getOutputStream().close();
        String said;
        try (InputStream output = process.getInputStream()) {
            said = new String(output.readAllBytes());
        }
        boolean well = process.waitFor() == 0;
        if (!well) {
            System.out.println(said);
        }
        return well;
    }

    private static void example(String code, Path checkout) throws IOException, InterruptedException {
        Matcher m = ANSWERED.matcher(code);
        due("the example answers too little", m.results().count() >= 10);
        String checked = m.replaceAll("if ($1 != $2) { throw new IllegalStateException(\"$1 isn't $2\"); }");
        Files.writeString(checkout.resolve("Example.java"),
            "public final class Example { public static void main(String[] args) {\n" + checked + "} }\n");
        due("the example doesn't hold", endsWell(checkout, "mkdir example\n"
            + "javac --release 17 -d example src/main/java/StaticDial.java Example.java\njava -cp example Example"));
    }

    private static void commands(List<String> blocks, Path checkout) throws IOException, InterruptedException {
        boolean runsAll = false;
        for (String block : blocks) {
            if (block.equals("bash .ci/run\n")) {
                // it runs this test, so it can't be run by it
                runsAll = Files.isExecutable(Path.of(".ci/run"));
            } else {
                due("doesn't end well:\n" + block, endsWell(checkout, block));
            }
        }
        due(".ci/run is not named or can't be run", runsAll);
    }

    private static void named(String text) throws IOException {
        Matcher m = QUOTED.matcher(text);
        List<String> calls = new ArrayList<>();
        while (m.find()) {
            String name = m.group(1);
            if (name.contains("/")) {
                due(name + " isn't there", isThere(Path.of(name)));
            } else {
                calls.add(name);
            }
        }
        for (java.lang.reflect.Method method : StaticDial.class.getDeclaredMethods()) {
            boolean isPublic = java.lang.reflect.Modifier.isPublic(method.getModifiers());
            due(method.getName() + " isn't named", !isPublic || calls.contains(method.getName()));
        }
    }

    /** A name may stand for many files. */
    private static boolean isThere(Path path) throws IOException {
        if (!path.toString().contains("*")) {
            return Files.exists(path);
        }
        PathMatcher matcher = FileSystems.getDefault().getPathMatcher("glob:" + path.getFileName());
        try (Stream<Path> files = Files.list(path.getParent())) {
            return files.anyMatch(f -> matcher.matches(f.getFileName()));
        }
    }
}
