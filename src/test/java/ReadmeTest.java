import java.io.IOException;
import java.nio.file.Files;
import java.nio.file.Path;
import java.util.HashSet;
import java.util.Set;
import java.util.regex.Matcher;
import java.util.regex.Pattern;

/** The lines of README.md that show the class in use answer what stands behind them, and it tells of every call. */
public final class ReadmeTest {
    private static final Pattern TEXT = Pattern.compile("String text = \"([^\"]+)\";");
    private static final Pattern ROW = Pattern.compile("x\\.(\\w+)\\(([^)]*)\\);\\s*// (-?\\d+|[A-Z]+)\\b.*");
    private static final int FEWEST_ROWS = 30;

    private static void need(boolean holds, String what) {
        if (holds) return;
        System.out.println("README.md: " + what);
        System.exit(1);
    }

    private static void runExample(String code) {
        Matcher text = TEXT.matcher(code);
        need(text.find(), "there is no text");
        Script script = new Script("README.md").typed(text.group(1));
        int rows = 0;
        for (String line : code.split("\n")) {
            if (!line.startsWith("x.")) continue;
            Matcher row = ROW.matcher(line);
            need(row.matches(), "no answer stands behind " + line);
            script.due(row.group(1) + " " + row.group(2).replace(",", " ") + " = " + row.group(3));
            rows++;
        }
        need(rows >= FEWEST_ROWS, "only " + rows + " rows were found");
    }

    private static void tellsOfEveryCall(String readme) {
        Set<String> told = new HashSet<>();
        Matcher m = Pattern.compile("`(\\w+)\\([^)`]*\\)`").matcher(readme);
        while (m.find()) told.add(m.group(1));
        for (var method : FogGuides.class.getDeclaredMethods()) {
            boolean open = java.lang.reflect.Modifier.isPublic(method.getModifiers());
            need(!open || told.contains(method.getName()), "nothing tells of " + method.getName());
        }
    }

    public static void main(String[] args) throws IOException {
        String readme = Files.readString(Path.of("README.md"));
        String[] parts = readme.split("```");
        need(parts.length > 1 && parts[1].startsWith("java\n"), "there is no example");
        runExample(parts[1]);
        tellsOfEveryCall(readme);
        Script.end();
    }
}
