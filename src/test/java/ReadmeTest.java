import java.io.IOException;
import java.lang.reflect.Method;
import java.lang.reflect.Modifier;
import java.nio.file.Files;
import java.nio.file.Path;
import java.util.Arrays;
import java.util.HashMap;
import java.util.List;
import java.util.Map;
import java.util.Set;
import java.util.TreeSet;
import java.util.regex.Matcher;
import java.util.regex.Pattern;
import java.util.stream.Collectors;
import java.util.stream.Stream;

/** What README.md says is so: its examples answer as they tell, and its tables leave nothing out. */
final class ReadmeTest {
    private static final Check CHECK = new Check();
    private static final Pattern EXAMPLE = Pattern.compile("(?s)```java\n(.*?)```");
    private static final Pattern NEW_HOUSE = Pattern.compile("SealHouse house = new SealHouse\\(\\);");
    private static final Pattern CALL =
            Pattern.compile("(?:int (\\w+) = )?house\\.(\\w+)\\(([^()]*)\\);(?: *// (-?\\d+)?.*)?");
    private static final Pattern NAMED_CALL = Pattern.compile("(?m)^\\| `(\\w+\\([^()]*\\))` \\|");
    private static final Pattern NAMED_CLASS = Pattern.compile("(?m)^\\| `([A-Z]\\w+)` \\|");
    private static final Pattern FACE = Pattern.compile("(?m)^    public (?:int|void|boolean) (\\w+\\([^()]*\\))");

    private SealHouse house = new SealHouse();
    private final Map<String, Integer> names = new HashMap<>();
    private int made = 0;

    public static void main(String[] args) throws IOException {
        String text = Files.readString(Path.of("README.md"));
        examples(text);
        calls(text);
        classesAndTests(text);
        running(text);
        CHECK.end();
    }

    private static void examples(String text) {
        Matcher found = EXAMPLE.matcher(text);
        int count = 0;
        while (found.find()) {
            count++;
            ReadmeTest example = new ReadmeTest();
            found.group(1).lines().forEach(example::runLine);
            CHECK.holds("example " + count + " makes calls, and not too many: " + example.made,
                    example.made > 0 && example.made <= 512);
        }
        CHECK.due("examples", 2, count);
    }

    private void runLine(String line) {
        if (line.isBlank() || line.startsWith("//")) {
            return;
        }
        if (NEW_HOUSE.matcher(line).matches()) {
            house = new SealHouse();
            return;
        }
        Matcher call = CALL.matcher(line);
        if (!call.matches()) {
            CHECK.holds("a line that can be run: " + line, false);
            return;
        }
        int[] numbers = Stream.of(call.group(3).split(", *")).filter(word -> !word.isEmpty())
                .mapToInt(this::valueOf).toArray();
        long answer = Calls.run(house, call.group(2), numbers);
        made++;
        if (call.group(1) != null) {
            names.put(call.group(1), (int) answer);
        }
        boolean silent = call.group(2).equals("load");
        CHECK.holds("the answer is told: " + line, silent || call.group(4) != null);
        if (!silent && call.group(4) != null) {
            CHECK.due(line, Long.parseLong(call.group(4)), answer);
        }
    }

    private int valueOf(String word) {
        return names.containsKey(word) ? names.get(word) : Long.decode(word).intValue();
    }

    /** The table of calls has those of the face, in its order and with its names for the numbers. */
    private static void calls(String text) throws IOException {
        String source = Files.readString(Path.of(System.getProperty("source", "src/main/java/SealHouse.java")));
        List<String> want = all(FACE, source).stream().map(call -> call.replace("int ", ""))
                .collect(Collectors.toList());
        CHECK.due("calls of the face", Arrays.stream(SealHouse.class.getDeclaredMethods())
                .map(Method::getModifiers).filter(Modifier::isPublic).count(), want.size());
        List<String> told = all(NAMED_CALL, text);
        CHECK.holds("the calls " + told + " are " + want, told.equals(want));
    }

    private static void classesAndTests(String text) throws IOException {
        Set<String> want = new TreeSet<>();
        want.add("SealHouse");
        for (Class<?> one : SealHouse.class.getDeclaredClasses()) {
            want.add(one.getSimpleName());
        }
        try (Stream<Path> files = Files.list(Path.of("src/test/java"))) {
            files.map(file -> file.getFileName().toString()).filter(name -> name.endsWith("Test.java"))
                    .forEach(name -> want.add(name.replace(".java", "")));
        }
        List<String> told = all(NAMED_CLASS, text);
        CHECK.holds("the classes and tests " + told + " are " + want, new TreeSet<>(told).equals(want));
        CHECK.due("each is told once", want.size(), told.size());
    }

    private static void running(String text) {
        CHECK.holds("the tests are run by .ci/run", text.contains("\n.ci/run\n"));
        CHECK.holds(".ci/run can be run", Files.isExecutable(Path.of(".ci/run")));
    }

    private static List<String> all(Pattern pattern, String text) {
        return pattern.matcher(text).results().map(found -> found.group(1)).collect(Collectors.toList());
    }
}
