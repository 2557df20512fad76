import java.io.IOException;
import java.nio.file.Files;
import java.nio.file.Path;
import java.util.ArrayList;
import java.util.List;
import java.util.regex.Matcher;
import java.util.regex.Pattern;

/** The project's own texts and the document's, as lines; .ci/run tells by "root" where the project is. */
final class Texts {
    static final Path ROOT = Path.of(System.getProperty("root", "."));
    static final String DOCUMENT = "../shared/DOC.md";

    private static final Pattern METHOD = Pattern.compile("\\s*public int (\\w+\\([^)]*\\)).*");

    private Texts() { }

    static List<String> lines(String path) throws IOException {
        return Files.readAllLines(ROOT.resolve(path));
    }

    /** All lines of the blocks that begin with ```java. */
    static List<String> javaLines(String path) throws IOException {
        List<String> found = new ArrayList<>();
        boolean inside = false;
        for (String line : lines(path)) {
            if (line.startsWith("```")) {
                inside = line.equals("```java");
            } else if (inside) {
                found.add(line);
            }
        }
        return found;
    }

    /** The public methods that some lines of Java tell, with their parameters, as they are written there. */
    static List<String> methods(List<String> lines) {
        List<String> found = new ArrayList<>();
        for (String line : lines) {
            Matcher method = METHOD.matcher(line);
            if (method.matches()) {
                found.add(method.group(1));
            }
        }
        return found;
    }
}
