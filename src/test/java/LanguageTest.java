import java.nio.file.Files;
import java.nio.file.Path;
import java.util.regex.Matcher;
import java.util.regex.Pattern;

/** Rules of ../shared/LANGUAGE.md that can be seen in the program's text. .ci/run starts it in the project's folder. */
public final class LanguageTest {
    private static final Due DUE = new Due();

    private static final String[] FORBIDDEN = {
        "\\bthrow\\b", "\\bthrows\\b", "\\btry\\b", "\\bcatch\\b", "\\bsynchronized\\b", "\\bassert\\b", "->", "::",
        "\\bimport\\b", "\\bpackage\\b", "\\bprotected\\b", "\\bdouble\\b", "\\bfloat\\b", "\\bRandom\\b",
        "\\bThread\\b", "\\bObject\\b", "\\bvar\\b", "\\w+Exact\\b", "static\\s*\\{", "@\\w+",
        "System\\.(?!arraycopy\\b)", "Math\\.(?!min\\b|max\\b)", "Integer\\.(?!bitCount\\b)"};

    public static void main(String[] args) throws Exception {
        String source = Files.readString(Path.of("src/main/java/IdeasDeck.java"));
        String code = source.replaceAll("(?s)/\\*.*?\\*/", "").replaceAll("//[^\n]*", "");
        for (String forbidden : FORBIDDEN) {
            Matcher m = Pattern.compile(forbidden).matcher(code);
            DUE.isTrue("no " + forbidden, !m.find());
        }
        for (int i = 0; i < source.length(); i++) {
            if (source.charAt(i) > 126) DUE.isTrue("only plain signs, at " + i, false);
        }
        methodsAreShort(code);
        DUE.end();
    }

    private static void methodsAreShort(String code) {
        int length = 0;
        boolean inside = false;
        String end = "";
        for (String line : code.split("\n")) {
            Matcher m = Pattern.compile("^( {4}| {8})(?!\\s)[^;=]*\\([^;]*\\) \\{$").matcher(line);
            if (!inside && m.find()) {
                inside = true;
                length = 0;
                end = m.group(1) + "}";
                DUE.isTrue("at most seven parameters: " + line, line.split(",").length <= 7);
            }
            length++;
            if (inside && line.equals(end)) {
                inside = false;
                DUE.isTrue("a method of " + length + " lines", length <= 60);
            }
        }
    }
}
