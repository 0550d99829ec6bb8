import java.io.IOException;
import java.nio.file.Files;
import java.nio.file.Path;
import java.util.ArrayList;
import java.util.List;
import java.util.regex.Matcher;
import java.util.regex.Pattern;

/** Those rules of LANGUAGE.md that can be told from the text of the class. */
public final class LanguageTest {
    private static final Path SOURCE = Path.of("src/main/java/Turnpike.java");

    private static final String[] BARRED = {
        "->", "::", "\\btry\\b", "\\bcatch\\b", "\\bfinally\\b", "\\bassert\\b", "\\bsynchronized\\b",
        "\\bpackage\\b", "\\bprotected\\b", "\\binstanceof\\b", "\\bvolatile\\b", "\\bnative\\b",
        "\\bvar\\b", "\\byield\\b", "\\brecord\\b", "\\benum\\b", "static \\{", "\\bSystem\\.(?!arraycopy)",
        "\\bInteger\\b", "\\bLong\\b", "\\bDouble\\b", "\\bObject\\b", "\\bString\\b", "\\bThread\\b",
        "\\bRandom\\b", "\\bMath\\.(?!max|min|floorMod)", "\\bArrays\\.(?!fill|copyOf)", "Exact\\b",
        "[^\\x00-\\x7f]", "\\.equals\\(", "hashCode", "toString", "\\bjava\\.(?!util\\.Arrays;)",
    };

    private final Checks checks = new Checks("LanguageTest");
    private final List<String> lines = new ArrayList<>();

    public static void main(String[] args) throws IOException {
        LanguageTest test = new LanguageTest();
        test.read();
        test.nothingBarred();
        test.statics();
        test.throwing();
        test.sizes();
        test.checks.end();
    }

    /** The code without its comments and texts. */
    private void read() throws IOException {
        String text = Files.readString(SOURCE);
        text = Pattern.compile("/\\*.*?\\*/", Pattern.DOTALL).matcher(text)
                .replaceAll(m -> m.group().replaceAll("[^\n]", ""));
        text = text.replaceAll("//[^\n]*", "").replaceAll("\"[^\"\n]*\"", "\"\"");
        lines.addAll(List.of(text.split("\n", -1)));
        checks.due("the class has lines", true, lines.size() > 100);
    }

    private void nothingBarred() {
        for (String barred : BARRED) {
            Pattern pattern = Pattern.compile(barred);
            for (int i = 0; i < lines.size(); i++) {
                if (pattern.matcher(lines.get(i)).find()) {
                    checks.fail("line " + (i + 1) + " has " + barred + ": " + lines.get(i).strip());
                }
            }
        }
    }

    private void statics() {
        for (int i = 0; i < lines.size(); i++) {
            String line = lines.get(i);
            boolean isField = line.contains("static ") && line.endsWith(";") && !line.contains("(");
            boolean isConstant = line.matches(" +private static final int [A-Z_]+ = .*;");
            checks.due("line " + (i + 1) + " is a constant, if static", true, !isField || isConstant);
        }
    }

    private void throwing() {
        Pattern thrown = Pattern.compile("\\bthrow\\b");
        Pattern right = Pattern.compile(
                "throw new (IndexOutOfBounds|IllegalArgument|IllegalState)Exception\\(\"\"\\);");
        for (int i = 0; i < lines.size(); i++) {
            if (thrown.matcher(lines.get(i)).find()) {
                checks.due("line " + (i + 1) + " throws rightly", true, right.matcher(lines.get(i)).find());
            }
        }
    }

    private void sizes() {
        int classes = 0;
        int fields = 0;
        int starts = -1;
        Pattern head = Pattern.compile("^( {4}| {8})[a-zA-Z].*\\(.*");
        for (int i = 0; i < lines.size(); i++) {
            String line = lines.get(i);
            if (line.contains(" class ")) {
                classes++;
                fields = 0;
            }
            if (line.matches(" +private (?!static).*;") && !line.contains(") {")) {
                fields++;
                checks.due("fields at line " + (i + 1), true, fields <= 20);
            }
            Matcher method = head.matcher(line);
            if (method.matches() && !line.endsWith(";") && !line.contains(" class ")) {
                starts = i;
                checks.due("parameters at line " + (i + 1), true, line.split(",").length <= 7);
            }
            if (line.matches("( {4}| {8})}") && starts >= 0) {
                checks.due("lines of the method at line " + (starts + 1), true, i - starts < 60);
                starts = -1;
            }
        }
        checks.due("classes: " + classes, true, classes <= 12);
    }
}
