import java.io.IOException;
import java.lang.reflect.Method;
import java.lang.reflect.Modifier;
import java.nio.file.Files;
import java.nio.file.Path;
import java.util.HashMap;
import java.util.List;
import java.util.Map;
import java.util.Set;
import java.util.TreeSet;
import java.util.regex.Matcher;
import java.util.regex.Pattern;
import java.util.stream.Stream;

/** What README.md says of the class and of its tests is so. */
final class ReadmeTest {
    private static final Checks CHECKS = new Checks();
    private static final Pattern CALL = Pattern.compile("x\\.(\\w+)\\(([-\\d, ]*)\\); +// (-?\\d+): .*");

    public static void main(String[] args) throws Exception {
        String readme = Files.readString(Path.of("README.md"));
        Map<String, Method> face = face();
        example(readme, face);
        table(readme, face.keySet());
        tests(readme);
        CHECKS.finish();
    }

    private static Map<String, Method> face() {
        Map<String, Method> face = new HashMap<>();
        for (Method method : VolumeSets.class.getDeclaredMethods()) {
            if (Modifier.isPublic(method.getModifiers())) {
                face.put(method.getName(), method);
            }
        }
        return face;
    }

    private static void example(String readme, Map<String, Method> face) throws ReflectiveOperationException {
        Matcher block = Pattern.compile("(?s)```java\n(.*?)```").matcher(readme);
        CHECKS.holds("README.md has an example", block.find());
        VolumeSets x = new VolumeSets();
        Set<String> called = new TreeSet<>();
        String[] lines = block.group(1).split("\n");
        CHECKS.holds("the example makes an object first", lines[0].equals("VolumeSets x = new VolumeSets();"));
        for (String line : List.of(lines).subList(1, lines.length)) {
            Matcher call = CALL.matcher(line);
            if (!call.matches() || !face.containsKey(call.group(1))) {
                CHECKS.holds("a call with its answer: " + line, false);
                continue;
            }
            called.add(call.group(1));
            Object got = face.get(call.group(1)).invoke(x, numbers(call.group(2)));
            CHECKS.due("README.md: " + line, (Integer) got, Integer.parseInt(call.group(3)));
        }
        CHECKS.holds("the example has every call, it has " + called, called.equals(face.keySet()));
    }

    private static Object[] numbers(String arguments) {
        return Stream.of(arguments.split(", *")).filter(a -> !a.isBlank()).map(Integer::valueOf).toArray();
    }

    private static void table(String readme, Set<String> calls) {
        Set<String> told = new TreeSet<>();
        for (String line : readme.split("\n")) {
            Matcher row = Pattern.compile("\\| (`[a-z].*?) \\|.*").matcher(line);
            if (row.matches()) {
                told.addAll(List.of(row.group(1).replace("`", "").split(", ")));
            }
        }
        CHECKS.holds("the table of calls has all of them and no other, it has " + told, told.equals(calls));
    }

    private static void tests(String readme) throws IOException {
        try (Stream<Path> files = Files.list(Path.of("src/test/java"))) {
            for (Path file : files.toList()) {
                String name = file.getFileName().toString().replace(".java", "");
                CHECKS.holds("README.md tells of " + name, readme.contains("`" + name + "`"));
            }
        }
        CHECKS.holds("README.md says how to run them", readme.contains("```sh\n.ci/run\n```"));
    }
}
