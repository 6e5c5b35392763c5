import java.io.IOException;
import java.nio.file.Files;
import java.nio.file.Path;
import java.util.Arrays;
import java.util.List;
import java.util.regex.Matcher;
import java.util.regex.Pattern;

/** Rules of LANGUAGE.md that the text of the class can break, by their numbers. */
public final class LanguageTest {

    private static final Path FILE = Path.of("src/main/java/SharerHome.java");

    private static final Pattern COMMENT = Pattern.compile("/\\*.*?\\*/|//[^\\n]*", Pattern.DOTALL);
    private static final Pattern METHOD = Pattern.compile("\\n( +)(?:[\\w\\[\\]<>]+ )*\\w+\\([^;{}()]*\\) \\{\\n(.*?)\\n\\1\\}", Pattern.DOTALL);

    private static final List<String> WORDS_OF_RULE_6 = Arrays.asList("throw", "throws", "try", "catch", "synchronized",
            "assert", "equals", "hashCode", "toString");
    private static final List<String> WORDS_OF_RULE_13 = Arrays.asList("Random", "random", "Thread", "currentTimeMillis",
            "nanoTime", "getenv", "getProperty", "File", "Socket");

    private static final Check CHECK = new Check("LanguageTest");

    public static void main(String[] args) throws IOException {
        String code = COMMENT.matcher(Files.readString(FILE)).replaceAll("");
        lacksWord("1: ", code, Arrays.asList("package", "protected"));
        CHECK.due("1: public and final", code.contains("public final class SharerHome {"), true);
        lacksText("2: ", code, Arrays.asList("->", "::"));
        lacksText("3: ", code, Arrays.asList("[][][]"));
        lacksWord("4: ", code, Arrays.asList("import", "java", "Object", "println"));
        looksAtLibrary(code);
        looksAtStatics(code);
        lacksWord("6: ", code, WORDS_OF_RULE_6);
        looksAtMethods(code);
        CHECK.due("11: classes", countOf("\\bclass\\b", code) <= 12, true);
        lacksWord("13: ", code, WORDS_OF_RULE_13);
        CHECK.end();
    }

    private static int countOf(String pattern, String text) {
        return (int) Pattern.compile(pattern).matcher(text).results().count();
    }

    private static void lacksWord(String rule, String code, List<String> words) {
        for (String word : words) {
            CHECK.due(rule + word, countOf("\\b" + word + "\\b", code), 0);
        }
    }

    private static void lacksText(String rule, String code, List<String> texts) {
        for (String text : texts) {
            CHECK.due(rule + text, code.contains(text), false);
        }
    }

    /** Of the library the class uses one function alone, so any other one is seen here and looked up in rule 4. */
    private static void looksAtLibrary(String code) {
        Matcher matcher = Pattern.compile("\\b(Integer|Long|Math|System|Arrays|String|List|ArrayList)\\.(\\w+)").matcher(code);
        while (matcher.find()) {
            CHECK.due("4: " + matcher.group(), matcher.group().equals("Integer.bitCount"), true);
        }
    }

    private static void looksAtStatics(String code) {
        for (String row : code.split("\\n")) {
            boolean isStaticField = row.matches(".*\\bstatic\\b.*") && !row.endsWith("{");
            CHECK.due("5:" + row, isStaticField && !row.matches(" +(public|private) static final int [A-Z_]+ = -?\\d+;"), false);
        }
        CHECK.due("5: static initialiser", countOf("\\bstatic\\s*\\{", code), 0);
    }

    private static void looksAtMethods(String code) {
        Matcher matcher = METHOD.matcher(code);
        int methods = 0;
        while (matcher.find()) {
            methods++;
            String head = matcher.group().split("\\{")[0].trim();
            CHECK.due("11: rows of " + head, matcher.group(2).split("\\n").length <= 60, true);
            boolean makes = countOf("\\bnew\\b", matcher.group(2)) > 0;
            CHECK.due("12: " + head + " makes an object", makes && !head.equals("public SharerHome()"), false);
        }
        CHECK.due("11: methods were found", methods > 17, true);
    }
}
