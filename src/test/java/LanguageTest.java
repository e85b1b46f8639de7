import java.io.IOException;
import java.nio.file.Files;
import java.nio.file.Path;
import java.util.regex.Matcher;
import java.util.regex.Pattern;

/** What of ../shared/LANGUAGE.md can be seen in the letters of the source. */
public final class LanguageTest {
    private static final Check CHECK = new Check();
    private static final String[] NOT_THERE = {"\\b(package|import|throws?|try|catch|finally)\\b",
        "\\b(synchronized|assert|instanceof|protected|abstract|volatile|transient|native)\\b",
        "\\b(equals|hashCode|toString|System\\.out|System\\.in|Exact)\\b", "->", "::",
        "\\bwhile\\s*\\(\\s*true", "@"};

    public static void main(String[] args) throws IOException {
        String source = Files.readString(Path.of("src/main/java/SpoonVotes.java"));
        String code = source.replaceAll("(?s)/\\*.*?\\*/", " ").replaceAll("//[^\n]*", " ")
                .replaceAll("\"[^\"\n]*\"", "\"\"");
        for (String word : NOT_THERE) {
            Matcher matcher = Pattern.compile(word).matcher(code);
            boolean found = matcher.find();
            CHECK.isTrue("none of " + word + (found ? " but " + matcher.group() : ""), !found);
        }
        CHECK.isTrue("signs 1 to 127", source.chars().allMatch(sign -> sign >= 1 && sign <= 127));
        noArrayBehindConstructors(code);
        methodsAreShort(source);
        CHECK.finish("language");
    }

    /** Every array and object is made as a field is, or in the constructor of Pile. */
    private static void noArrayBehindConstructors(String code) {
        int made = 0;
        for (String line : code.split("\n")) {
            if (!line.contains("new ")) continue;
            made++;
            boolean isField = line.matches("\\s*(private )?final .*= new .*;");
            boolean isInPile = line.matches("\\s*sittings(\\[k\\])? = new Sitting.*;");
            CHECK.isTrue("made in a constructor: " + line.trim(), isField || isInPile);
        }
        CHECK.isTrue("something is made", made > 0);
    }

    private static void methodsAreShort(String source) {
        Pattern head = Pattern.compile(
                "( {4}| {8})(?:(?:public|private|static) )*(?:(?:int|boolean|char|void) )?\\w+\\(.*\\) \\{");
        String[] lines = source.split("\n");
        int methods = 0;
        for (int start = 0; start < lines.length; start++) {
            Matcher matcher = head.matcher(lines[start]);
            if (!matcher.matches() || lines[start].contains(" if (")) continue;
            methods++;
            int end = start;
            while (!lines[end].equals(matcher.group(1) + "}")) end++;
            CHECK.isTrue("sixty lines at most: " + lines[start].trim(), end - start < 60);
        }
        CHECK.isTrue("the face's methods are found", methods > 30);
    }
}
