import java.io.IOException;
import java.nio.file.Files;
import java.nio.file.Path;
import java.util.regex.Matcher;
import java.util.regex.Pattern;

/** The rules of LANGUAGE.md that can be read off the text of the class. It runs in the project's folder. */
public final class LanguageTest {
    private static final int LONGEST_METHOD = 60;
    private static final int MOST_PARAMETERS = 7;

    public static void main(String[] args) throws IOException {
        String source = Files.readString(Path.of("src/main/java/GuideDesk.java"));
        // Comments, texts and characters are no code.
        String code = source.replaceAll("(?s)/\\*.*?\\*/", "").replaceAll("//[^\n]*", "")
            .replaceAll("\"[^\"]*\"", "\"\"").replaceAll("'(\\\\.|[^'])'", "' '");
        String[] ruledOut = {"throw", "throws", "try", "catch", "finally", "synchronized", "assert", "protected",
            "package", "native", "volatile", "transient", "double", "float", "hashCode", "toString", "Object", "Random",
            "Thread", "System\\.(?!arraycopy)\\w+", "\\w+Exact", "Math\\.random", "java\\.util\\.(?!Arrays;)\\w+"};
        for (String word : ruledOut) {
            Check.due(word, 0, count("\\b" + word + "\\b", code));
        }
        Check.due("library functions beside those in use", 0,
            count("\\b(Arrays|Integer|Long|Math|String|System)\\.(?!(fill|bitCount|max|min|arraycopy)\\()", code));
        Check.due("lambdas", 0, count("->", code));
        Check.due("method references", 0, count("::", code));
        Check.due("static blocks", 0, count("static\\s*\\{", code));
        Check.due("static fields that change", 0, count("static (?!final|[\\w\\[\\]]+ \\w+\\()", code));
        Check.due("imports", 1, count("import ", code));
        Check.due("characters above 127", 0, source.chars().filter(c -> c > 127).count());
        parameters(code);
        lengths(code);
        Check.finish();
    }

    private static int count(String pattern, String code) {
        int found = 0;
        for (Matcher m = Pattern.compile(pattern).matcher(code); m.find(); ) {
            found++;
        }
        return found;
    }

    private static void parameters(String code) {
        Matcher m = Pattern.compile("\\w+ ?\\(((?:[\\w\\[\\]]+ \\w+(?:, )?)+)\\) \\{").matcher(code);
        while (m.find()) {
            Check.due(m.group(), true, m.group(1).split(",").length <= MOST_PARAMETERS);
        }
    }

    private static void lengths(String code) {
        int begin = 0;
        String[] lines = code.split("\n");
        for (int i = 0; i < lines.length; i++) {
            if (lines[i].matches(" {4}( {4})?\\S.*\\) \\{")) {
                begin = i;
            } else if (lines[i].matches(" {4}( {4})?\\}")) {
                Check.due("lines up to " + (i + 1) + ": " + lines[begin].trim(), true,
                    i - begin < LONGEST_METHOD || lines[begin].contains("class"));
                begin = i;
            }
        }
    }
}
