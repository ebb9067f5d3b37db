import java.io.IOException;
import java.nio.file.Files;
import java.nio.file.Path;
import java.util.regex.Matcher;
import java.util.regex.Pattern;

/** Rules of LANGUAGE.md that can be seen in the text of the class. */
final class LanguageTest {
    private static final String[] FORBIDDEN = {
        "->", "::", "\\bfinally\\b", "\\bsynchronized\\b", "\\bassert\\b", "\\bcatch\\b", "\\btry\\b", "Exact\\(", "\\bprotected\\b",
        "\\bthis::", "\\binstanceof\\b", "\\bdouble\\b", "\\bfloat\\b", "\\bObject\\b", "\\bSystem\\b", "\\bhashCode\\b",
        "\\btoString\\b", "\\bgetMessage\\b", "\\bextends\\b", "\\bimplements\\b", "\\[\\]\\[\\]", "\\bpackage\\b", "static \\{",
        "\\bwhile \\(true\\)", "for \\(;;", "\\bgoto\\b", "\\bvar\\b", "\" \\+", "\\+ \"", "\\bnew (?:int|long|boolean|char)\\[[^M\\]]",
    };

    public static void main(String[] args) throws IOException {
        String source = Files.readString(Path.of(System.getProperty("source", "src/main/java/ShareTable.java")));
        String code = source.replaceAll("(?s)/\\*.*?\\*/", "").replaceAll("//[^\n]*", "");
        for (String pattern : FORBIDDEN) {
            Matcher m = Pattern.compile(pattern).matcher(code);
            Check.due("forbidden " + pattern, m.find(), false);
        }
        Matcher imports = Pattern.compile("import ([^;]+);").matcher(code);
        while (imports.find()) {
            Check.due("import " + imports.group(1), imports.group(1).equals("java.util.NoSuchElementException"), true);
        }
        Matcher thrown = Pattern.compile("\\bthrow ([^;]+);").matcher(code);
        while (thrown.find()) {
            Check.due("throw " + thrown.group(1), thrown.group(1).equals("new NoSuchElementException()"), true);
        }
        checkLengths(code.split("\n"));
        for (char c : source.toCharArray()) {
            Check.due("sign " + (int) c, c < 128, true);
        }
        Check.end("LanguageTest");
    }

    private static void checkLengths(String[] lines) {
        int start = -1;
        String indent = "";
        for (int i = 0; i < lines.length; i++) {
            Matcher m = Pattern.compile("^((?:    ){1,2})(?!private static final class|public final class).*\\) (?:throws \\w+ )?\\{$").matcher(lines[i]);
            if (start < 0 && m.find() && !lines[i].substring(m.group(1).length()).startsWith(" ")) {
                start = i;
                indent = m.group(1);
            } else if (start >= 0 && lines[i].equals(indent + "}")) {
                Check.due("lines of " + lines[start].trim(), i - start + 1 <= 60, true);
                start = -1;
            }
        }
    }
}
