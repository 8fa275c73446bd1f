import java.io.IOException;
import java.lang.reflect.InvocationTargetException;
import java.lang.reflect.Method;
import java.lang.reflect.Modifier;
import java.nio.file.DirectoryStream;
import java.nio.file.Files;
import java.nio.file.Path;
import java.util.Arrays;
import java.util.HashMap;
import java.util.List;
import java.util.Map;
import java.util.regex.Matcher;
import java.util.regex.Pattern;

/** README.md: its examples answer as it says, and it names each call and each test. */
public final class ReadmeTest {
    private static final Checks CHECKS = new Checks("ReadmeTest");
    private static final Path README = Path.of("README.md");
    private static final String NEW_OBJECT = "SideWork work = new SideWork();";
    private static final Pattern CALL =
            Pattern.compile("(?:int (\\w+) = )?work\\.(\\w+)\\(([^)]*)\\);(?: *// (?:-> (throws \\w+|-?\\d+))?.*)?");

    private final Map<String, Integer> names = new HashMap<>();
    private SideWork work = new SideWork();
    private int told = 0;

    public static void main(String[] args) throws IOException, ReflectiveOperationException {
        List<String> lines = Files.readAllLines(README);
        ReadmeTest test = new ReadmeTest();
        boolean inExample = false;
        for (String line : lines) {
            if (line.startsWith("```")) {
                inExample = line.equals("```java");
            } else if (inExample && !line.isBlank()) {
                test.ask(line);
            }
        }
        CHECKS.due("some answers are told", test.told > 20 ? 1 : 0, 1);
        namesAll(String.join("\n", lines));
        CHECKS.finish();
    }

    private void ask(String line) throws ReflectiveOperationException {
        if (line.equals(NEW_OBJECT)) {
            work = new SideWork();
            names.clear();
            return;
        }
        Matcher call = CALL.matcher(line);
        CHECKS.due("understood: " + line, call.matches() ? 1 : 0, 1);
        if (!call.matches()) {
            return;
        }
        String answer = answerOf(call.group(2), call.group(3));
        if (call.group(1) != null) {
            names.put(call.group(1), Integer.valueOf(answer));
            CHECKS.due(line + " is refused", answer.startsWith("-") ? 1 : 0, 0);
        } else {
            told++;
            CHECKS.due(line, answer, String.valueOf(call.group(4)));
        }
    }

    private String answerOf(String name, String given) throws ReflectiveOperationException {
        Object[] numbers = given.isBlank() ? new Object[0]
                : Arrays.stream(given.split(", *")).map(this::numberOf).toArray();
        Class<?>[] types = new Class<?>[numbers.length];
        Arrays.fill(types, int.class);
        try {
            return String.valueOf(SideWork.class.getMethod(name, types).invoke(work, numbers));
        } catch (InvocationTargetException e) {
            return "throws " + e.getCause().getClass().getSimpleName();
        }
    }

    private Integer numberOf(String given) {
        return names.containsKey(given) ? names.get(given) : Integer.valueOf(given);
    }

    private static void namesAll(String readme) throws IOException {
        for (Method method : SideWork.class.getDeclaredMethods()) {
            if (Modifier.isPublic(method.getModifiers())) {
                CHECKS.due("names " + method.getName(), readme.contains("`" + method.getName() + "(") ? 1 : 0, 1);
            }
        }
        for (String code : List.of("UNKNOWN", "OUTSIDE", "ROOM")) {
            CHECKS.due("names " + code, readme.contains("`" + code + "`") ? 1 : 0, 1);
        }
        CHECKS.due("says how to run the tests", readme.contains("\n.ci/run\n") ? 1 : 0, 1);
        try (DirectoryStream<Path> tests = Files.newDirectoryStream(Path.of("src/test/java"), "*Test.java")) {
            for (Path test : tests) {
                String name = test.getFileName().toString().replace(".java", "");
                CHECKS.due("names " + name, readme.contains("| `" + name + "` |") ? 1 : 0, 1);
            }
        }
    }
}
