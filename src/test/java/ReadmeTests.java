import java.io.IOException;
import java.lang.reflect.Method;
import java.lang.reflect.Modifier;
import java.nio.file.DirectoryStream;
import java.nio.file.Files;
import java.nio.file.Path;
import java.util.Set;
import java.util.TreeSet;
import java.util.regex.Matcher;
import java.util.regex.Pattern;

/** README.md tells of the class and its tests as they stand: its rows are run, its names are looked up. */
public final class ReadmeTests {
    private static final Path ROOT = Path.of(System.getProperty("birthdayrooms.root", "."));
    private static final Pattern BLOCK = Pattern.compile("(?s)```java\n(.*?)```");
    private static final Pattern TEXT = Pattern.compile("for \\(char letter : \"([^\"]*)\"\\.toCharArray\\(\\)\\) \\{");
    private static final Pattern ROW = Pattern.compile("house\\.([a-zA-Z]+\\([-0-9, ]*\\)); +// (-?[0-9]+|[A-Z]+)(:.*)?");
    private static final Pattern TEST = Pattern.compile("`([A-Z][a-zA-Z]*Tests)`");

    public static void main(String[] args) throws IOException {
        String readme = Files.readString(ROOT.resolve("README.md"));
        rows(readme);
        calls(readme);
        tests(readme);
        Script.end("ReadmeTests");
    }

    private static void rows(String readme) {
        Script.sentence("README.md, its rows");
        Script script = new Script();
        Matcher block = BLOCK.matcher(readme);
        while (block.find()) {
            for (String row : block.group(1).split("\n")) {
                runRow(script, row);
            }
        }
        if (script.callsMade() == 0) {
            Script.fail("there is no row to run");
        }
    }

    private static void runRow(Script script, String row) {
        Matcher text = TEXT.matcher(row);
        Matcher told = ROW.matcher(row);
        if (text.matches()) {
            script.type(text.group(1));
        } else if (told.matches()) {
            script.run(told.group(1).replace(" ", "") + "=" + told.group(2));
        } else if (row.startsWith("house.")) {
            Script.fail("a row that tells no answer: " + row);
        }
    }

    private static void calls(String readme) {
        Script.sentence("README.md, each call");
        for (Method method : BirthdayRooms.class.getDeclaredMethods()) {
            if (Modifier.isPublic(method.getModifiers()) && !readme.contains("house." + method.getName() + "(")) {
                Script.fail(method.getName() + " is not told");
            }
        }
    }

    private static void tests(String readme) throws IOException {
        Script.sentence("README.md, each test");
        Set<String> named = new TreeSet<>();
        Matcher matcher = TEST.matcher(readme);
        while (matcher.find()) {
            named.add(matcher.group(1));
        }
        Set<String> there = new TreeSet<>();
        try (DirectoryStream<Path> files = Files.newDirectoryStream(ROOT.resolve("src/test/java"), "*.java")) {
            for (Path file : files) {
                there.add(file.getFileName().toString().replace(".java", ""));
            }
        }
        if (!named.equals(there)) {
            Script.fail("named are " + named + ", there are " + there);
        }
    }
}
