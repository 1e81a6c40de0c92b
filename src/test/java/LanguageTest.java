import java.nio.file.Files;
import java.nio.file.Path;
import java.util.ArrayList;
import java.util.List;
import java.util.Set;
import java.util.TreeSet;
import java.util.regex.Matcher;
import java.util.regex.Pattern;

/** Those rules of LANGUAGE.md that can be seen in the text of the class. */
public final class LanguageTest {
    private static final Check CHECK = new Check("LanguageTest");
    private static final Path SOURCE = Path.of("src/main/java/AimFerry.java");

    public static void main(String[] args) throws Exception {
        String raw = Files.readString(SOURCE);
        String code = raw.replaceAll("(?s)/\\*.*?\\*/", " ").replaceAll("//[^\n]*", " ");
        String plain = code.replaceAll("\"[^\"\n]*\"", "\"\"").replaceAll("'[^'\n]+'", "' '");
        none(plain, "rule 6", "\\b(throw|throws|try|catch|finally|synchronized|assert)\\b");
        none(plain, "rule 2: lambdas and method references", "->|::");
        none(plain, "rule 10: texts joined by +", "\"\\s*\\+|\\+\\s*\"");
        none(plain, "rule 3: other types", "\\b(Object|Map|HashMap|Set|Optional|Character|Boolean|var)\\b");
        none(plain, "rule 4: Exact", "\\w+Exact\\b");
        none(plain, "rule 13", "\\b(System\\.(currentTimeMillis|nanoTime|out|err|getenv|exit)|Random|Thread|File)\\b");
        none(plain, "rule 5: static fields that are not final", "\\bstatic\\s+(?!final|class|int \\w+\\(|boolean \\w+\\("
            + "|long \\w+\\(|abstract)\\w+");
        none(plain, "imports", "import (?!java\\.util\\.Arrays;)");
        for (char sign : raw.toCharArray()) {
            CHECK.due("a sign of 1 to 127", sign > 0 && sign < 128 ? 1 : 0, 1);
        }
        int classes = all(plain, "\\bclass (\\w+)").size();
        CHECK.due("rule 11: " + classes + " classes", classes <= 13 ? 1 : 0, 1);
        face(plain);
        methods(plain);
        CHECK.finish();
    }

    private static List<String> all(String text, String pattern) {
        List<String> found = new ArrayList<>();
        Matcher matcher = Pattern.compile(pattern).matcher(text);
        while (matcher.find()) {
            found.add(matcher.group(1));
        }
        return found;
    }

    private static void none(String text, String rule, String pattern) {
        List<String> found = all(text, "(" + pattern + ")");
        CHECK.due(rule + " " + found, found.size(), 0);
    }

    private static void face(String plain) {
        List<String> open = all(plain, "\\bpublic int (\\w+)\\(");
        CHECK.due("rule 1: public methods", open.size(), 33);
        Set<String> other = new TreeSet<>(all(plain, "\n    +(?!public)(?:private |static |final )*"
            + "(?:int|long|boolean|void|String|Rule|River) (\\w+)\\("));
        other.retainAll(open);
        CHECK.due("rule 1: private methods with a public one's name " + other, other.size(), 0);
    }

    private static void methods(String plain) {
        Matcher matcher = Pattern.compile("\n( {4}| {8})(?:[\\w\\[\\]]+ )*\\w+\\(([^)]*)\\) \\{\n").matcher(plain);
        int methods = 0;
        while (matcher.find()) {
            methods++;
            int end = plain.indexOf("\n" + matcher.group(1) + "}\n", matcher.end() - 1);
            String body = plain.substring(matcher.end(), Math.max(matcher.end(), end));
            String head = matcher.group().trim();
            CHECK.due("rule 11: lines of " + head, body.split("\n").length <= 60 ? 1 : 0, 1);
            CHECK.due("rule 11: parameters of " + head, matcher.group(2).split(",").length <= 7 ? 1 : 0, 1);
        }
        CHECK.due("methods are found", methods > 80 ? 1 : 0, 1);
    }
}
