import java.io.IOException;
import java.nio.file.Files;
import java.nio.file.Path;
import java.util.ArrayList;
import java.util.List;
import java.util.regex.Matcher;
import java.util.regex.Pattern;

/** The example of README.md (found by the program's path, the argument) answers what it says. */
public final class ReadmeTest {
    private static final Pattern EXAMPLE = Pattern.compile("(?s)```java\\n(.*?)```");
    private static final Pattern CALL = Pattern.compile("(?:int \\w+ = )?(office\\.\\w+\\([^;]*\\));\\s*// (-?\\d+).*");

    private static String readme(String program) throws IOException {
        Path root = Path.of(program).toAbsolutePath().getParent().getParent().getParent().getParent();
        return Files.readString(root.resolve("README.md"));
    }

    /** Each line of the example behind its first one, as "call = answer". */
    private static List<String> told(String readme) {
        List<String> lines = new ArrayList<>();
        Matcher example = EXAMPLE.matcher(readme);
        String[] code = example.find() ? example.group(1).split("\n") : new String[0];
        for (int i = 1; i < code.length; i++) {
            Matcher call = CALL.matcher(code[i]);
            lines.add(call.matches() ? call.group(1) + " = " + call.group(2) : "no call: " + code[i]);
        }
        return lines;
    }

    /** The same calls, as they answer. */
    private static List<String> answered() {
        List<String> lines = new ArrayList<>();
        AgendumOffice office = new AgendumOffice();
        int first = office.clause(-1, 100);
        lines.add("office.clause(-1, 100) = " + first);
        int inner = office.clause(first, 110);
        lines.add("office.clause(first, 110) = " + inner);
        int party = office.party(40);
        lines.add("office.party(40) = " + party);
        int replace = office.lay(2, inner, 111);
        lines.add("office.lay(2, inner, 111) = " + replace);
        int behind = office.lay(3, first, 200);
        lines.add("office.lay(3, first, 200) = " + behind);
        lines.add("office.vote(party, replace, 1) = " + office.vote(party, replace, 1));
        lines.add("office.vote(party, behind, 1) = " + office.vote(party, behind, 1));
        lines.add("office.next() = " + office.next());
        lines.add("office.inTheEnd() = " + office.inTheEnd());
        lines.add("office.sit(30) = " + office.sit(30));
        lines.add("office.speak(party, 5) = " + office.speak(party, 5));
        lines.add("office.call() = " + office.call());
        lines.add("office.call() = " + office.call());
        lines.add("office.ofClause(inner, 0) = " + office.ofClause(inner, 0));
        lines.add("office.read(2) = " + office.read(2));
        lines.add("office.many(10) = " + office.many(10));
        return lines;
    }

    public static void main(String[] args) throws IOException {
        List<String> told = told(readme(args[0]));
        List<String> answered = answered();
        Checks.due("README.md: how many calls it tells", told.size(), answered.size());
        for (int i = 0; i < told.size() && i < answered.size(); i++) {
            Checks.due("README.md: the call " + i + " of its example:", told.get(i), answered.get(i));
        }
        Checks.end("ReadmeTest");
    }
}
