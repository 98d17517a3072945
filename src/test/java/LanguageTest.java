import java.io.IOException;
import java.nio.file.Files;
import java.nio.file.Path;
import java.util.List;
import java.util.Set;
import java.util.TreeSet;
import java.util.regex.Matcher;
import java.util.regex.Pattern;

/** Rules of LANGUAGE.md that can be seen from the class's text; comments are left out of it. */
public final class LanguageTest {
    private static final Set<String> LIBRARY = Set.of("Math.max", "Math.min", "Math.abs", "Math.floorMod",
        "Integer.bitCount", "System.arraycopy");
    private static final List<String> LEFT_OUT = List.of("while", "do", "try", "catch", "finally", "synchronized", "assert",
        "instanceof", "equals", "hashCode", "toString", "protected", "package", "double", "float", "transient", "native",
        "volatile");

    private final Check check = new Check();
    private final String text;

    private LanguageTest(String text) {
        this.text = text;
    }

    public static void main(String[] args) throws IOException {
        Path root = Path.of(System.getProperty("root", "."));
        String source = Files.readString(root.resolve("src/main/java/StruckColours.java"));
        LanguageTest test = new LanguageTest(source.replaceAll("(?s)/\\*.*?\\*/", "").replaceAll("//[^\n]*", ""));
        test.check.says("LANGUAGE.md 4: signs of constants are 1 to 127");
        test.check.due("the file", source.chars().allMatch(c -> c > 0 && c < 128), true);
        test.library();
        test.words();
        test.loops();
        test.throwing();
        test.lengths();
        test.check.ends();
    }

    private void library() {
        check.says("LANGUAGE.md 4: the library: only what stands there");
        Matcher imports = Pattern.compile("import ([^;]+);").matcher(text);
        while (imports.find()) {
            check.due("import " + imports.group(1), imports.group(1).equals("java.util.NoSuchElementException"), true);
        }
        Set<String> used = new TreeSet<>();
        Matcher calls = Pattern.compile("\\b[A-Z][a-z]\\w*\\.[a-z]\\w*").matcher(text.replaceAll("import [^;]+;", ""));
        while (calls.find()) {
            used.add(calls.group());
        }
        for (String call : used) {
            boolean own = text.contains("class " + call.substring(0, call.indexOf('.')) + " ");
            check.due(call, own || LIBRARY.contains(call), true);
        }
    }

    private void words() {
        check.says("LANGUAGE.md: what this class does without");
        String without = text.replaceAll("\"[^\"]*\"", "\"\"");
        for (String word : LEFT_OUT) {
            check.due(word, Pattern.compile("\\b" + word + "\\b").matcher(without).find(), false);
        }
        check.due("lambdas and method references", without.contains("->") || without.contains("::"), false);
        check.due("static state", Pattern.compile("static (?!final|class|\\w+(\\[\\])* \\w+\\()").matcher(without).find(), false);
    }

    /** A counter that one written number moves, against a bound. */
    private void loops() {
        check.says("LANGUAGE.md 9: Every loop has an end that can be seen from its own lines");
        Pattern counted = Pattern.compile("for \\(int (\\w+) = [^;]+; [^;]*\\b\\1 (<|<=|>=) [^;]+; \\1(\\+\\+|--| [+-]= \\d+)\\) \\{");
        for (String line : text.split("\n")) {
            if (line.trim().startsWith("for ")) {
                check.due(line.trim(), counted.matcher(line).find(), true);
            }
        }
    }

    private void throwing() {
        check.says("LANGUAGE.md 6: a call throws exactly what and where the document says");
        Matcher m = Pattern.compile("throw ([^;]+);").matcher(text);
        int throwing = 0;
        while (m.find()) {
            throwing++;
            check.due(m.group(1), m.group(1).matches("new NoSuchElementException\\(\"[^\"]*\"\\)"), true);
        }
        check.due("throw statements", throwing, 2);
    }

    private void lengths() {
        check.says("LANGUAGE.md 11: Methods stay short (some sixty lines)");
        String[] lines = text.split("\n");
        for (int i = 0; i < lines.length; i++) {
            if (!lines[i].matches(" +(public|private) [^=;]*\\).* \\{")) {
                continue;
            }
            String end = lines[i].replaceAll("\\S.*", "") + "}";
            int length = 1;
            while (i + length < lines.length && !lines[i + length].equals(end)) {
                length++;
            }
            check.due(lines[i].trim() + ": lines", length < 60, true);
        }
    }
}
