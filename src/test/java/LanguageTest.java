import java.nio.file.Files;
import java.nio.file.Path;
import java.util.regex.Matcher;
import java.util.regex.Pattern;

/** What of ../shared/LANGUAGE.md can be seen in the text of the class. */
public final class LanguageTest {
    private static final String[] FORBIDDEN = {
        "->", "::", "@", "\\bsynchronized\\b", "\\bassert\\b", "\\bfinally\\b", "\\bgetMessage\\b",
        "Exact\\b", "\\bSystem\\.(?!arraycopy\\b)", "\\bArrays\\.(?!fill\\b)",
        "\\bMath\\.(?!max\\b|min\\b|abs\\b)", "\\bInteger\\.(?!bitCount\\b)", "\\bThread\\b",
        "\\bRandom\\b", "\\bObject\\b", "\\bequals\\b", "\\bhashCode\\b", "\\btoString\\b", "\\bvar\\b",
        "\\b(double|float)\\b", "\\bstatic \\{", "\\bwhile\\b", "\\bpackage\\b",
    };

    private LanguageTest() {
    }

    public static void main(String[] args) throws Exception {
        String source = System.getProperty("source", "src/main/java/BeansOnTheOtherSide.java");
        String text = Files.readString(Path.of(source));
        Due.holds("signs 1 to 127", text.chars().allMatch(c -> c == '\n' || c >= 32 && c < 127));
        String code = text.replaceAll("(?s)/\\*.*?\\*/", "").replaceAll("//[^\n]*", "")
            .replaceAll("\"[^\"]*\"", "\"\"");
        for (String forbidden : FORBIDDEN) {
            Matcher m = Pattern.compile(forbidden).matcher(code);
            Due.holds("no " + forbidden, !m.find());
        }
        Matcher imports = Pattern.compile("import ([^;]*);").matcher(code);
        while (imports.find()) {
            Due.holds("import " + imports.group(1), imports.group(1).equals("java.util.Arrays"));
        }
        Matcher caught = Pattern.compile("catch \\((\\w+) ").matcher(code);
        while (caught.find()) {
            Due.holds("catch of " + caught.group(1), caught.group(1).equals("IllegalStateException"));
        }
        methodLengths(text.split("\n"));
        thingsMade(code.split("\n"));
        Due.close();
    }

    private static void methodLengths(String[] lines) {
        int begun = -1;
        String end = "";
        for (int i = 0; i < lines.length; i++) {
            boolean head = lines[i].matches(" {4,8}\\S.*\\) (throws .*)?\\{") && !lines[i].contains(" = ");
            if (begun < 0 && head) {
                begun = i;
                end = " ".repeat(lines[i].indexOf(lines[i].trim())) + "}";
            } else if (begun >= 0 && lines[i].equals(end)) {
                Due.holds(lines[begun].trim() + " is short", i - begun <= 60);
                begun = -1;
            }
        }
    }

    /** Behind the constructor nothing is made but what is thrown and the rows of a class inside. */
    private static void thingsMade(String[] lines) {
        boolean madeUp = false;
        for (String line : lines) {
            madeUp |= line.contains("public int treaty(");
            if (madeUp && line.contains("new ")) {
                Due.holds(line.trim() + " makes nothing in a call", line.contains("throw new ")
                    || line.matches(" +private final int\\[\\] \\w+ = new int\\[[A-Z]+\\];"));
            }
        }
        Due.holds("the face was found", madeUp);
    }
}
