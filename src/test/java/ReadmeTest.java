import java.io.IOException;
import java.lang.reflect.Method;
import java.lang.reflect.Modifier;
import java.nio.file.Files;
import java.nio.file.Path;
import java.util.List;
import java.util.regex.Matcher;
import java.util.regex.Pattern;

/**
 * The example of README.md answers what is said behind its calls, and README.md names every call of
 * the face. It runs in the folder of README.md.
 */
public final class ReadmeTest {
    private static final Pattern CALL =
            Pattern.compile("x\\.(\\w+\\([-0-9, ]*\\));(?:\\s+// (.*))?");
    private static final Pattern TYPED =
            Pattern.compile("for \\(char c : \"([^\"]*)\"\\.toCharArray\\(\\)\\) \\{");
    // What is told behind the answer, or without one where a call returns nothing.
    private static final Pattern ANSWER = Pattern.compile("(-?\\d+|true|false)(:.*)?");

    public static void main(String[] args) throws IOException {
        List<String> lines = Files.readAllLines(Path.of("README.md"));
        answersOfTheExample(lines);
        namesOfTheCalls(lines);
        Subject.finish();
    }

    private static void answersOfTheExample(List<String> lines) {
        Subject.about("README.md: the example");
        int start = lines.indexOf("```java");
        int end = start + 1 + lines.subList(start + 1, lines.size()).indexOf("```");
        Subject.same("the first line of the example", lines.get(start + 1), "ViewMaintainer x = new ViewMaintainer();");
        Subject x = new Subject();
        for (String line : lines.subList(start + 2, end)) {
            follow(x, line.strip());
        }
    }

    private static void follow(Subject x, String line) {
        Matcher typed = TYPED.matcher(line);
        Matcher call = CALL.matcher(line);
        if (typed.matches()) {
            x.type(typed.group(1));
        } else if (call.matches()) {
            x.due(call.group(1), answerIn(call.group(2)));
        } else {
            boolean isRestOfLoop = line.equals("x.appendCharacter(c);") || line.equals("}");
            Subject.same("a line that is no call: " + line, line.isEmpty() || isRestOfLoop, true);
        }
    }

    private static String answerIn(String comment) {
        Matcher answer = ANSWER.matcher(comment == null ? "" : comment);
        return answer.matches() ? answer.group(1) : Subject.NOTHING;
    }

    private static void namesOfTheCalls(List<String> lines) {
        Subject.about("README.md: what the calls are for");
        int start = lines.indexOf("| what for | calls |");
        int end = start + 1 + lines.subList(start + 1, lines.size()).indexOf("");
        String table = String.join("\n", lines.subList(start + 1, end));
        for (Method method : ViewMaintainer.class.getDeclaredMethods()) {
            if (Modifier.isPublic(method.getModifiers())) {
                String name = "`" + method.getName() + "`";
                Subject.same(name + " stands in the table", table.contains(name), true);
            }
        }
    }
}
