import java.io.IOException;
import java.nio.file.Files;
import java.nio.file.Path;
import java.util.List;
import java.util.regex.Matcher;
import java.util.regex.Pattern;

/** README.md tells how the class is used: its examples are played, and each method of the face is named there. */
public final class ReadmeTest extends HouseChecks {
    private static final Path PAGE = Path.of("README.md");
    private static final Pattern CALL = Pattern.compile("house\\.(\\w+)\\((.*?)\\);\\s+// (.+)");
    private static final String NEW = "Meldhouse house = new Meldhouse();";

    private static void plays(List<String> lines) {
        Object house = null;
        Object model = null;
        boolean isJava = false;
        int calls = 0;
        for (String line : lines) {
            isJava = line.startsWith("```") ? line.equals("```java") : isJava;
            Matcher call = CALL.matcher(line);
            if (line.equals(NEW)) {
                house = new Meldhouse();
                model = new Oracle();
            } else if (isJava && call.matches() && house != null) {
                String text = call.group(1) + " " + call.group(2).replaceAll("[',]", "");
                String due = call.group(3).replace("'", "").replace("throws ", "throws.");
                is(line, String.valueOf(told(house, text)), due);
                is("by the model: " + line, String.valueOf(told(model, text)), due);
                calls++;
            } else {
                is("a line of an example is a call: " + line, isJava && !line.startsWith("```"), false);
            }
        }
        is("examples are played", calls > 60, true);
    }

    private static void names(String page) {
        for (String name : faceOf(Meldhouse.class).keySet()) {
            boolean isNamed = page.contains("`" + name + "`") || page.contains("house." + name + "(");
            is("README.md names " + name, isNamed, true);
        }
        is("the methods of the face", faceOf(Meldhouse.class).size(), 40);
        for (String word : new String[] {ARGUMENT, STATE, UNSUPPORTED, BOUNDS, ELEMENT, ARITHMETIC, "`../shared`",
                ".ci/run"}) {
            is("README.md names " + word, page.contains(word), true);
        }
    }

    private static void namesTests(String page) throws IOException {
        try (var files = Files.list(Path.of("src/test/java"))) {
            for (Path file : files.toList()) {
                is("README.md names " + file, page.contains(file.getFileName().toString()), true);
            }
        }
    }

    public static void main(String[] args) throws IOException {
        plays(Files.readAllLines(PAGE));
        names(Files.readString(PAGE));
        namesTests(Files.readString(PAGE));
        finish();
    }
}
