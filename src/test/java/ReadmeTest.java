import java.io.IOException;
import java.lang.reflect.Method;
import java.lang.reflect.Modifier;
import java.nio.file.Files;
import java.nio.file.Path;
import java.util.List;
import java.util.TreeSet;
import java.util.regex.Matcher;
import java.util.regex.Pattern;

/** README.md holds: its examples answer as they say, and its tables name every call with as many numbers as it has. */
final class ReadmeTest {
    private static final Pattern EXAMPLE = Pattern.compile("yard\\.(\\w+\\([^)]*\\)); +// ([^:]+):.*");
    private static final Pattern NAMED = Pattern.compile("`(\\w+)\\(([^)]*)\\)`");

    public static void main(String[] args) throws IOException {
        List<String> lines = Files.readAllLines(Path.of(System.getProperty("readme", "README.md")));
        boolean complete = namesEveryCall(lines);
        Script script = new Script();
        for (String example : String.join("\n", lines).split("SwitchYard yard = new SwitchYard\\(\\);\n")) {
            if (example.startsWith("yard.")) {
                script.sentence("README.md", example.lines().findFirst().orElse(""), asScript(example));
            }
        }
        script.end();
        System.exit(complete ? 0 : 1);
    }

    private static String asScript(String example) {
        StringBuilder calls = new StringBuilder();
        for (String line : example.substring(0, example.indexOf("```")).split("\n")) {
            Matcher matcher = EXAMPLE.matcher(line);
            if (!matcher.matches()) {
                throw new IllegalStateException("no call with its answer: " + line);
            }
            calls.append(matcher.group(1)).append(" = ").append(matcher.group(2)).append('\n');
        }
        return calls.toString();
    }

    private static boolean namesEveryCall(List<String> lines) {
        TreeSet<String> named = new TreeSet<>();
        for (String line : lines) {
            Matcher matcher = NAMED.matcher(line.startsWith("| `") ? line.split("\\|")[1] : "");
            while (matcher.find()) {
                String numbers = matcher.group(2);
                named.add(matcher.group(1) + " " + (numbers.isEmpty() ? 0 : numbers.split(",").length));
            }
        }
        TreeSet<String> made = new TreeSet<>();
        for (Method method : SwitchYard.class.getDeclaredMethods()) {
            if (Modifier.isPublic(method.getModifiers())) {
                made.add(method.getName() + " " + method.getParameterCount());
            }
        }
        if (!named.equals(made)) {
            System.out.println("README.md names " + named + ", the class has " + made);
        }
        return named.equals(made);
    }
}
