import java.io.IOException;
import java.nio.file.Files;
import java.nio.file.Path;
import java.util.ArrayList;
import java.util.List;
import java.util.regex.Matcher;
import java.util.regex.Pattern;

/** README.md as those tests need it that hold it to its word. */
final class Readme {
    private static final Path FILE = Path.of("README.md");

    private Readme() {
    }

    static String text() throws IOException {
        return Files.readString(FILE);
    }

    /** What stands between fences of a language, in order. */
    static List<String> blocks(String language) throws IOException {
        Matcher fenced = Pattern.compile("^```" + language + "\\n(.*?)^```$", Pattern.DOTALL | Pattern.MULTILINE)
            .matcher(text());
        List<String> blocks = new ArrayList<>();
        while (fenced.find()) blocks.add(fenced.group(1));
        return blocks;
    }
}
