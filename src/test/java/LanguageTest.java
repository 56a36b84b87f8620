import java.nio.charset.StandardCharsets;
import java.nio.file.Files;
import java.nio.file.Path;
import java.util.ArrayList;
import java.util.List;
import java.util.regex.Matcher;
import java.util.regex.Pattern;

/** What of LANGUAGE.md can be seen in the source's lines, and the face that the document gives. */
public final class LanguageTest {
    private static final String SOURCE = "src/main/java/ParoleCache.java";
    private static final String[] BANNED = {"throw", "throws", "try", "catch", "finally", "synchronized", "assert",
        "import", "package", "protected", "instanceof", "volatile", "native", "transient", "var", "yield", "record",
        "System", "Thread", "Random", "Object", "equals", "hashCode", "toString"};
    private static final String[] FACE = {"ParoleCache()", "int shape(int sets, int ways)", "int flush()",
        "int addHelper(int kind, int degree, int price)", "int setDegree(int helper, int degree)",
        "int setTrial(int lines)", "int pardon(int helper)", "int forget(int helper)",
        "int access(int program, int line)", "int walk(int program, int line, int stride, int count)",
        "int type(char character)", "int clearText()", "int run()", "int undo()", "int keep()", "int restore()",
        "int line(int line, int what)", "int inSet(int set, int place)", "int thrownOut(int place)",
        "int helper(int helper, int what)", "int table(int helper, int place, int what)",
        "int wouldAsk(int helper, int program, int line, int place)",
        "int wouldHit(int program, int line, int stride, int count)", "int bestHelper()",
        "int logged(int back, int what)", "int count(int what)"};
    private static final int MOST_LINES_OF_A_METHOD = 60;
    private static final int MOST_CLASSES = 12;
    private static final int MOST_FIELDS = 20;

    private static final Checks CHECKS = new Checks();

    public static void main(String[] args) throws Exception {
        String whole = Files.readString(Path.of(args.length > 0 ? args[0] : SOURCE), StandardCharsets.ISO_8859_1);
        String code = whole.replaceAll("(?s)/\\*.*?\\*/", "").replaceAll("//[^\\n]*", "");
        CHECKS.due("signs above 127", 0, whole.chars().filter(c -> c > 127).count());
        CHECKS.due("lambdas and method references", 0, times(code, "->|::"));
        for (String word : BANNED) {
            CHECKS.due("'" + word + "'", 0, times(code, "\\b" + word + "\\b"));
        }
        face(code);
        sizes(code);
        CHECKS.close("LanguageTest");
    }

    private static int times(String code, String pattern) {
        Matcher m = Pattern.compile(pattern).matcher(code);
        int n = 0;
        while (m.find()) {
            n++;
        }
        return n;
    }

    private static void face(String code) {
        CHECKS.due("public class", 1, times(code, "(?m)^public final class ParoleCache \\{"));
        CHECKS.due("constants", 5, times(code, "public static final int"));
        CHECKS.due("public members", 1 + 5 + FACE.length, times(code, "\\bpublic\\b"));
        for (String one : FACE) {
            CHECKS.due(one, 1, times(code, Pattern.quote("    public " + one + " {")));
            String name = one.replaceAll("\\(.*", "").replaceAll(".* ", "");
            CHECKS.due("private methods named " + name, 0,
                name.equals("ParoleCache") ? 0 : times(code, "private (static )?[A-Za-z\\[\\]]+ " + name + "\\("));
        }
        CHECKS.due("members of no stated kind", 0, times(code, "(?m)^ {4}(int|boolean|char|final|static|void) "));
        CHECKS.due("static fields that can change", 0,
            times(code, "\\bstatic (?!final\\b)[A-Za-z\\[\\]]+ \\w+\\s*[=;]"));
    }

    /** Looks at how long methods are and how many fields classes have, by the file's even indentation. */
    private static void sizes(String code) {
        List<String> wrong = new ArrayList<>();
        int classes = 0;
        int fields = 0;
        int began = -1;
        String[] lines = code.split("\\n");
        for (int i = 0; i < lines.length; i++) {
            if (lines[i].matches(" *(public|private static) final class .*")) {
                classes++;
                fields = 0;
            }
            if (lines[i].matches(" *private (final )?[A-Za-z\\[\\]]+ \\w+;")) {
                fields++;
                if (fields > MOST_FIELDS) {
                    wrong.add("fields: " + lines[i]);
                }
            }
            if (lines[i].matches(" {4,8}(public|private).*\\) \\{")) {
                began = i;
                if (lines[i].chars().filter(c -> c == ',').count() > 6) {
                    wrong.add("parameters: " + lines[i]);
                }
            }
            if (began >= 0 && lines[i].matches(" {4,8}\\}")) {
                if (i - began > MOST_LINES_OF_A_METHOD) {
                    wrong.add("length: " + lines[began]);
                }
                began = -1;
            }
        }
        CHECKS.due("too many classes", 0, Math.max(0, classes - MOST_CLASSES));
        CHECKS.due("no class at all", 1, Math.min(1, classes));
        CHECKS.due("too long or too many: " + wrong, 0, wrong.size());
    }
}
