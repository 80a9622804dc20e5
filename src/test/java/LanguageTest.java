import java.io.IOException;
import java.nio.file.Files;
import java.nio.file.Path;
import java.util.regex.Matcher;
import java.util.regex.Pattern;

/** Rules of shared/LANGUAGE.md that can be seen in the text of the program (its path: the argument). */
public final class LanguageTest {
    private static final String[] RULED_OUT = {
        "->", "::", "\\bimport\\b", "\\bpackage\\b", "\\bfinally\\b", "\\bsynchronized\\b", "\\bassert\\b",
        "\\bcatch\\b", "\\bvar\\b", "\\bprotected\\b", "Exact\\(", "\\bstatic \\{", "@", "[^ -~\n]",
        "\\bequals\\(", "\\bhashCode\\b", "\\btoString\\b", "\" \\+", "\\+ \"", "\\bSystem\\.(?!arraycopy)",
    };
    private static final Pattern RAW_INDEX = Pattern.compile("\\w+\\[\\w[^\\]]*\\]");
    private static final int MOST_LINES = 60;

    private static void nothingRuledOut(String code) {
        for (String sign : RULED_OUT) {
            Matcher m = Pattern.compile(sign).matcher(code);
            Checks.due("rules 1 to 13: " + sign, m.find(), false);
        }
    }

    /** Rows are used by at(), put() and copy() alone; elsewhere a new row is made by a constant length. */
    private static void rowsAreGuarded(String code) {
        Matcher m = RAW_INDEX.matcher(code);
        int found = 0;
        while (m.find()) {
            boolean isNew = code.startsWith("new ", m.start() - 4);
            found += isNew ? 0 : 1;
        }
        Checks.due("rule 7: uses of an index, all in at(), put() and copy()", found, 4);
    }

    private static void methodsAreShort(String code) {
        int begin = -1;
        String[] lines = code.split("\n");
        for (int i = 0; i < lines.length; i++) {
            boolean opens = lines[i].matches("(    |        )\\S.*\\{") || lines[i].matches(" {12}throws .*\\{");
            if (opens && !lines[i].contains("class ")) {
                begin = i;
            }
            if (lines[i].matches("(    |        )\\}") && begin >= 0) {
                Checks.due("rule 11: the lines from " + (begin + 1), i - begin < MOST_LINES, true);
            }
        }
    }

    public static void main(String[] args) throws IOException {
        String code = Files.readString(Path.of(args[0])).replaceAll("(?s)/\\*.*?\\*/", "").replaceAll("//.*", "");
        nothingRuledOut(code);
        rowsAreGuarded(code);
        methodsAreShort(code);
        Checks.end("LanguageTest");
    }
}
