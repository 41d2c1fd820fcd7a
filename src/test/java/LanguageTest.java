import java.io.IOException;
import java.nio.file.Files;
import java.nio.file.Path;
import java.util.regex.Matcher;
import java.util.regex.Pattern;

/** The rules of LANGUAGE.md that can be seen in the text of the class. Run from the project's folder. */
public final class LanguageTest {
    private static final String[] FORBIDDEN = {"\\b(throw|throws|try|catch|finally|synchronized|assert)\\b", "->", "::",
        "\\b(hashCode|toString|equals)\\b", "\\w+Exact\\b", "\\b(Object|Thread|Random|System\\.(?!arraycopy))\\b",
        "\\bstatic\\s*\\{", "\\bpackage\\b", "\\bprotected\\b", "\\[\\]\\s*\\[\\]\\s*\\[\\]",
        "\\b(Exception|Error)\\b", "\\bwhile\\s*\\(true\\)", "for\\s*\\(\\s*;"};
    private static final int LONGEST_METHOD = 60;
    private static final int MOST_CLASSES = 12;
    private static int wrong = 0;

    public static void main(String[] args) throws IOException {
        String text = Files.readString(Path.of("src/main/java/LeafTrees.java"));
        String code = text.replaceAll("(?s)/\\*.*?\\*/", "").replaceAll("//[^\n]*", "");
        for (String pattern : FORBIDDEN) {
            Matcher m = Pattern.compile(pattern).matcher(code);
            if (m.find()) complain("forbidden: " + m.group());
        }
        checkImports(code);
        checkMethodLengths(code);
        Matcher classes = Pattern.compile("\\bclass\\s+\\w+").matcher(code);
        int found = 0;
        while (classes.find()) found++;
        if (found > MOST_CLASSES) complain(found + " classes");
        System.out.println(wrong == 0 ? "the text is as due" : wrong + " things are not as due");
        if (wrong != 0) System.exit(1);
    }

    private static void complain(String what) {
        wrong++;
        System.out.println(what);
    }

    private static void checkImports(String code) {
        Matcher m = Pattern.compile("import\\s+([\\w.*]+);").matcher(code);
        while (m.find()) {
            if (!m.group(1).matches("java\\.util\\.(Arrays|ArrayList|List)")) complain("import of " + m.group(1));
        }
    }

    /** A method's first line ends with ") {" and its last one is a brace as far in. */
    private static void checkMethodLengths(String code) {
        String[] lines = code.split("\n");
        for (int i = 0; i < lines.length; i++) {
            Matcher m = Pattern.compile("^((?:    ){1,2})(?:public |private |static )*[\\w\\[\\]]+ \\w+\\(([^)]*)\\) \\{$")
                .matcher(lines[i]);
            if (!m.find()) continue;
            if (m.group(2).split(",").length > 7) complain("too many parameters: " + lines[i]);
            int end = i;
            while (end < lines.length && !lines[end].equals(m.group(1) + "}")) end++;
            if (end - i > LONGEST_METHOD) complain("too long: " + lines[i]);
        }
    }
}
