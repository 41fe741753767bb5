import java.io.IOException;
import java.nio.file.Files;
import java.nio.file.Path;
import java.util.regex.Matcher;
import java.util.regex.Pattern;

/** What ../shared/LANGUAGE.md rules out and a look at the source's words can find. */
public final class SourceTest {
    private static final String[] RULED_OUT = {
        "throw", "try", "catch", "finally", "synchronized", "assert", "import", "package", "->", "::",
        "System\\.(?!arraycopy)", "\\w+Exact", "boolean equals", "int hashCode", "String toString",
        "protected", "@", "new \\w+\\(\\) \\{", "Random", "Thread", "Object",
    };

    public static void main(String[] args) throws IOException {
        Checks checks = new Checks();
        checks.about("source");
        String source = Files.readString(Path.of("src/main/java/ThirstScales.java"));
        String bare = source.replaceAll("(?s)/\\*.*?\\*/", "").replaceAll("//[^\n]*", "");
        for (String words : RULED_OUT) {
            boolean isWord = words.matches("[A-Za-z ]+");
            String bounded = isWord ? "\\b" + words + "\\b" : words;
            Matcher found = Pattern.compile(bounded).matcher(bare);
            checks.due("'" + words + "' stands in the source", found.find() ? 1 : 0, 0);
        }
        for (int i = 0; i < source.length(); i++) {
            if (source.charAt(i) > 126) {
                checks.due("a sign beyond 126 at " + i, source.charAt(i), 0);
            }
        }
        checks.end();
    }
}
