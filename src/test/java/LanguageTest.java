import java.nio.file.Files;
import java.nio.file.Path;
import java.util.HashSet;
import java.util.Set;
import java.util.regex.Matcher;
import java.util.regex.Pattern;

/** What of ../shared/LANGUAGE.md can be seen in the text of the class. */
public final class LanguageTest {
    private static final String[] FORBIDDEN = {
        "(?m)^(?!\\s*(case|default)\\b).*->", "::", "@(?!Override\\b)", "\\bsynchronized\\b",
        "\\bassert\\b", "\\bfinally\\b", "\\bgetMessage\\b", "Exact\\b", "\\bSystem\\.(?!arraycopy\\b)",
        "\\bArrays\\.(?!fill\\b|copyOf\\b|copyOfRange\\b)",
        "\\bMath\\.(?!max\\b|min\\b|abs\\b|floorDiv\\b|floorMod\\b)", "\\bThread\\b", "\\bRandom\\b",
        "\\bObject\\b", "\\bboolean equals\\(", "\\bint hashCode\\(", "\\bString toString\\(",
        "\\bstatic \\{", "\\bpackage\\b", "\\btry \\(", "\\bthrow (?!new \\w+\\((\"\")?\\);)",
    };
    private static final Set<String> IMPORTS = Set.of("java.util.Arrays", "java.util.ArrayList",
        "java.util.List", "java.util.Iterator", "java.util.NoSuchElementException");
    private static final Set<String> EXCEPTIONS = Set.of("IllegalStateException",
        "IllegalArgumentException", "IndexOutOfBoundsException", "ArithmeticException",
        "UnsupportedOperationException", "NoSuchElementException", "RuntimeException");

    private LanguageTest() {
    }

    public static void main(String[] args) throws Exception {
        String source = System.getProperty("source", "src/main/java/BeansOnTheOtherSide.java");
        String text = Files.readString(Path.of(source));
        String bare = text.replaceAll("(?s)/\\*.*?\\*/", "").replaceAll("//[^\n]*", "");
        Due.holds("signs 1 to 127", bare.chars().allMatch(c -> c > 0 && c < 128));
        String code = bare.replaceAll("\"[^\"]*\"", "\"\"");
        for (String forbidden : FORBIDDEN) {
            Due.holds("no " + forbidden, !Pattern.compile(forbidden).matcher(code).find());
        }
        each(code, "import ([^;]*);", IMPORTS);
        each(code, "throw new (\\w+)", EXCEPTIONS);
        each(code, "catch \\((\\w+) ", EXCEPTIONS);
        methodLengths(text.split("\n"));
        constructorsKeepTheirOwn(code);
        Due.close();
    }

    private static void each(String code, String pattern, Set<String> allowed) {
        Matcher found = Pattern.compile(pattern).matcher(code);
        while (found.find()) {
            Due.holds(found.group(), allowed.contains(found.group(1)));
        }
    }

    private static void methodLengths(String[] lines) {
        int begun = -1;
        String end = "";
        for (int i = 0; i < lines.length; i++) {
            boolean head = lines[i].matches(" {4,8}\\S.*\\) (throws .*)?\\{") && !lines[i].contains(" = ");
            if (begun < 0 && head) {
                begun = i;
                end = " ".repeat(lines[i].indexOf(lines[i].trim())) + "}";
            } else if (begun >= 0 && lines[i].equals(end)) {
                Due.holds(lines[begun].trim() + " is short", i - begun <= 60);
                begun = -1;
            }
        }
    }

    /** Rule 12: no constructor gives its object, or one of its fields, to another. */
    private static void constructorsKeepTheirOwn(String code) {
        Set<String> own = new HashSet<>(Set.of("this"));
        Matcher field = Pattern.compile("(?m)^ {4,8}private final [\\w\\[\\]]+ (\\w+)( =|;)").matcher(code);
        while (field.find()) {
            own.add(field.group(1));
        }
        Due.holds("fields are seen", own.size() > 1);
        int seen = 0;
        Matcher head = Pattern.compile("(?m)^( {4,8})(public )?[A-Z]\\w*\\([^)]*\\) \\{$").matcher(code);
        while (head.find()) {
            int end = code.indexOf("\n" + head.group(1) + "}", head.end());
            Due.holds("a constructor ends", end >= 0);
            seen++;
            String body = code.substring(head.end(), Math.max(end, head.end()));
            Matcher given = Pattern.compile("\\w+\\(([^()]*)\\)").matcher(body);
            while (given.find()) {
                for (String argument : given.group(1).split(",")) {
                    Due.holds("a constructor gives away " + argument, !own.contains(argument.trim()));
                }
            }
        }
        Due.holds("a constructor is seen", seen > 0);
    }
}
