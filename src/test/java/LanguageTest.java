import java.io.IOException;
import java.nio.file.Files;
import java.nio.file.Path;
import java.util.regex.Matcher;
import java.util.regex.Pattern;

/** Rules of LANGUAGE.md that can be seen in the text of the class; .ci/run starts it at the project's root. */
public final class LanguageTest {
    private static final String[] FORBIDDEN = {"->", "::", "\\btry\\b", "\\bcatch\\b", "\\bfinally\\b",
        "\\bsynchronized\\b", "\\bassert\\b", "\\bvar\\b", "\\bequals\\b", "\\bhashCode\\b", "\\btoString\\b",
        "\\bSystem\\b", "\\bThread\\b", "\\bRandom\\b", "\\binstanceof\\b", "Exact\\b", "\\bObject\\b", "@",
        "\\bpackage\\b", "\"\\s*\\+", "\\+\\s*\""};
    private static final Pattern HEAD = Pattern.compile("^ {4}( {4})?(?:[\\w\\[\\]]+ )*\\w+\\(.*\\{$");
    private static final int MOST_LINES = 60;

    public static void main(String[] args) throws IOException {
        String source = Files.readString(Path.of("src/main/java/SubstituteDesk.java"));
        String code = source.replaceAll("(?s)/\\*.*?\\*/", "").replaceAll("//[^\n]*", "");
        for (String words : FORBIDDEN) {
            Check.isTrue("the class has no " + words, !Pattern.compile(words).matcher(code).find());
        }
        Check.isTrue("signs are 1 to 127", source.chars().allMatch(c -> c > 0 && c < 128));
        importsAreListed(code);
        staticsAreConstants(code);
        methodsAreShort(source);
        Check.end();
    }

    private static void importsAreListed(String code) {
        Matcher matcher = Pattern.compile("import ([\\w.]+);").matcher(code);
        while (matcher.find()) {
            Check.same("an import", matcher.group(1), "java.util.NoSuchElementException");
        }
    }

    private static void staticsAreConstants(String code) {
        for (String line : code.split("\n")) {
            boolean isField = line.contains("static ") && line.contains("=");
            Check.isTrue("a constant: " + line, !isField || line.contains("static final int "));
        }
    }

    private static void methodsAreShort(String source) {
        String[] lines = source.split("\n");
        int methods = 0;
        for (int i = 0; i < lines.length; i++) {
            if (!HEAD.matcher(lines[i]).matches() || lines[i].contains(" class ")) {
                continue;
            }
            methods++;
            String close = lines[i].startsWith("        ") ? "        }" : "    }";
            int end = i;
            while (end < lines.length && !lines[end].equals(close)) {
                end++;
            }
            Check.isTrue("at most sixty lines: " + lines[i], end - i < MOST_LINES);
        }
        Check.isTrue("methods are found: " + methods, methods > 100);
    }
}
