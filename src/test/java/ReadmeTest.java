import java.io.IOException;
import java.lang.reflect.Method;
import java.lang.reflect.Modifier;
import java.nio.file.Files;
import java.nio.file.Path;
import java.util.ArrayList;
import java.util.Comparator;
import java.util.List;
import java.util.regex.Matcher;
import java.util.regex.Pattern;
import java.util.stream.Stream;

/** Follows README.md word by word: its program, its commands, and the names of calls and tests. */
public final class ReadmeTest {
    private static final Path README = Path.of("README.md");
    private static final Path TESTS = Path.of("src/test/java");

    public static void main(String[] args) throws IOException, InterruptedException {
        String readme = Files.readString(README);
        Path place = Files.createTempDirectory("readme");
        try {
            copy(Path.of("src"), place);
            Path program = place.resolve("Mill.java");
            Files.writeString(program, between(readme, "```java\n", "```"));
            List<String> commands = commands(readme);
            Check.due("commands", commands.size(), 3);
            Check.due(commands.get(0), run(place, commands.get(0)).equals("370\n0"), true);
            Check.due(commands.get(1) + " is there", Files.isExecutable(Path.of(commands.get(1))), true);
            Files.delete(program);
            Check.due(commands.get(2), run(place, commands.get(2)).endsWith(" 0 wrong\n0"), true);
        } finally {
            remove(place);
        }
        calls(readme);
        tests(readme);
        Check.close("ReadmeTest");
    }

    /** The lines that are set in by four blanks, outside the program. */
    private static List<String> commands(String readme) {
        List<String> found = new ArrayList<>();
        for (String line : readme.replaceAll("(?s)```.*?```", "").split("\n")) {
            if (line.startsWith("    ")) {
                found.add(line.strip());
            }
        }
        return found;
    }

    private static String between(String text, String open, String close) {
        int from = text.indexOf(open) + open.length();
        return text.substring(from, text.indexOf(close, from));
    }

    /** What a command prints, and the code with which it ends. */
    private static String run(Path place, String command) throws IOException, InterruptedException {
        Process process = new ProcessBuilder("sh", "-c", command)
                .directory(place.toFile()).redirectErrorStream(true).start();
        String printed = new String(process.getInputStream().readAllBytes());
        return printed + process.waitFor();
    }

    /** Each call of the face stands in the table of calls. */
    private static void calls(String readme) {
        String table = between(readme, "| about | calls |", "\n\n");
        for (Method m : FirmTown.class.getDeclaredMethods()) {
            if (Modifier.isPublic(m.getModifiers())) {
                Check.due(m.getName() + " stands there", table.contains("`" + m.getName() + "`"), true);
            }
        }
    }

    /** Each test that is named is there, and each that is there is named. */
    private static void tests(String readme) throws IOException {
        Matcher named = Pattern.compile("`(\\w+Test|Model)`").matcher(readme);
        while (named.find()) {
            String file = named.group(1) + ".java";
            Check.due(file + " is there", Files.exists(TESTS.resolve(file)), true);
        }
        try (Stream<Path> files = Files.list(TESTS)) {
            for (Path file : files.filter(f -> f.toString().endsWith("Test.java")).toList()) {
                String name = file.getFileName().toString().replace(".java", "");
                Check.due(name + " is named", readme.contains("`" + name + "`"), true);
            }
        }
    }

    private static void copy(Path from, Path into) throws IOException {
        try (Stream<Path> all = Files.walk(from)) {
            for (Path one : all.toList()) {
                Files.copy(one, into.resolve(one.toString()));
            }
        }
    }

    private static void remove(Path folder) throws IOException {
        try (Stream<Path> all = Files.walk(folder)) {
            for (Path one : all.sorted(Comparator.reverseOrder()).toList()) {
                Files.delete(one);
            }
        }
    }
}
