import java.io.IOException;
import java.lang.reflect.Method;
import java.lang.reflect.Modifier;
import java.nio.file.Files;
import java.nio.file.Path;
import java.util.Map;
import java.util.Set;
import java.util.TreeMap;
import java.util.TreeSet;
import java.util.regex.Matcher;
import java.util.regex.Pattern;

/**
 * README.md shows each call of the face, and behind each the answer that the class gives; it names
 * every test there is, and no other.
 */
public final class ReadmeTests {
    private static final Path README = Path.of("README.md");
    private static final Path TESTS = Path.of("src/test/java");
    private static final Pattern BLOCK = Pattern.compile("(?ms)^```java\n(.*?)^```$");
    private static final Pattern SHOWN =
            Pattern.compile("light\\.(\\w+)\\(([-\\d, ]*)\\); *// (-?\\d+|[A-Z]+)\\b.*");
    private static final String NEW = "LightRound light = new LightRound();";
    private static final Map<String, Long> NAMES = Map.of("NONE", -1L, "BAD", -2L, "STATE", -3L,
            "FULL", -4L, "NO", Long.MIN_VALUE);
    private static int wrong = 0;

    private static void tell(String text) {
        wrong++;
        System.out.println(text);
    }

    private static Map<String, Method> face() {
        Map<String, Method> face = new TreeMap<>();
        for (Method method : LightRound.class.getDeclaredMethods()) {
            if (Modifier.isPublic(method.getModifiers())) {
                face.put(method.getName(), method);
            }
        }
        return face;
    }

    private static Object[] numbers(String text) {
        if (text.isBlank()) {
            return new Object[0];
        }
        String[] words = text.split(",");
        Object[] numbers = new Object[words.length];
        for (int k = 0; k < words.length; k++) {
            numbers[k] = Integer.valueOf(words[k].trim());
        }
        return numbers;
    }

    private static long answerDue(String word) {
        Long named = NAMES.get(word);
        return named != null ? named : Long.parseLong(word);
    }

    /** Calls what the row shows, and takes the call off those that are still to be shown. */
    private static void row(String row, LightRound light, Map<String, Method> face,
            Set<String> unseen) throws ReflectiveOperationException {
        Matcher shown = SHOWN.matcher(row);
        if (!shown.matches() || !face.containsKey(shown.group(1))) {
            tell("README.md: no call with its answer: " + row);
            return;
        }
        Object got = face.get(shown.group(1)).invoke(light, numbers(shown.group(2)));
        if (((Number) got).longValue() != answerDue(shown.group(3))) {
            tell("README.md: answered " + got + ": " + row);
        }
        unseen.remove(shown.group(1));
    }

    private static void calls(String text) throws ReflectiveOperationException {
        Map<String, Method> face = face();
        Set<String> unseen = new TreeSet<>(face.keySet());
        LightRound light = null;
        Matcher blocks = BLOCK.matcher(text);
        while (blocks.find()) {
            for (String row : blocks.group(1).split("\n")) {
                if (row.equals(NEW)) {
                    light = new LightRound();
                } else if (!row.isBlank()) {
                    row(row, light, face, unseen);
                }
            }
        }
        if (!unseen.isEmpty()) {
            tell("README.md does not show " + unseen);
        }
    }

    private static void tests(String text) throws IOException {
        Set<String> named = new TreeSet<>();
        Matcher names = Pattern.compile("`(\\w+Tests)`").matcher(text);
        while (names.find()) {
            named.add(names.group(1) + ".java");
        }
        Set<String> there = new TreeSet<>();
        try (var files = Files.list(TESTS)) {
            files.forEach(file -> there.add(file.getFileName().toString()));
        }
        if (!named.equals(there)) {
            tell("README.md names the tests " + named + ", there are " + there);
        }
    }

    public static void main(String[] args) throws IOException, ReflectiveOperationException {
        String text = Files.readString(README);
        calls(text);
        tests(text);
        System.out.println(wrong == 0 ? "README.md shows what the class answers"
                : wrong + " faults in README.md");
        if (wrong != 0) {
            System.exit(1);
        }
    }
}
