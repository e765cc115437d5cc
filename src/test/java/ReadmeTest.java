import java.io.IOException;
import java.lang.reflect.Method;
import java.lang.reflect.Modifier;
import java.nio.file.Files;
import java.nio.file.Path;
import java.util.List;
import java.util.regex.Matcher;
import java.util.regex.Pattern;

/** What README.md says under "Use" holds: the code's answers, the lines of a text, every call of the face. */
public final class ReadmeTest {
    private static final Pattern TOLD_SIGNS = Pattern.compile("String (text|label) = \"(.*)\";");
    private static final Pattern CALL = Pattern.compile("carriers\\.(\\w+)\\((.*)\\); +// ([^:]+): .*");
    private static final Pattern TEXT_LINE = Pattern.compile("\\| `([A-Z/*][^`(]*)` \\| .*");

    public static void main(String[] args) throws IOException {
        String readme = Files.readString(Path.of("README.md"));
        codeAnswersAsSaid(readme);
        linesOfTheText(readme);
        callsAreNamed(readme);
        choicesHold();
        Due.end();
    }

    private static String between(String text, String from, String to) {
        int start = text.indexOf(from);
        int end = start < 0 ? -1 : text.indexOf(to, start + from.length());
        return end < 0 ? "" : text.substring(start + from.length(), end);
    }

    private static void codeAnswersAsSaid(String readme) {
        Due.sentence("README, Use: the code");
        Trial run = new Trial();
        for (String line : between(readme, "```java\n", "```").split("\n")) {
            Matcher told = TOLD_SIGNS.matcher(line);
            if (told.matches() && told.group(1).equals("text")) {
                run.tell(told.group(2).replace("\\n", "\n"));
            } else if (told.matches()) {
                run.enter(told.group(2));
            } else if (line.startsWith("carriers.")) {
                makeCall(run, line);
            }
        }
    }

    private static void makeCall(Trial run, String line) {
        Matcher call = CALL.matcher(line);
        boolean read = call.matches();
        Due.is("an answer stands behind " + line, "true", "" + read);
        if (read) {
            run.due(answer(call.group(3)), call.group(1), arguments(call.group(2)));
        }
    }

    private static int[] arguments(String list) {
        if (list.isEmpty()) {
            return new int[0];
        }
        String[] parts = list.split(", ");
        int[] numbers = new int[parts.length];
        for (int i = 0; i < parts.length; i++) {
            numbers[i] = Integer.parseInt(answer(parts[i]));
        }
        return numbers;
    }

    /** A sign as Java writes it becomes its number, all else stays. */
    private static String answer(String written) {
        return written.startsWith("'") ? Integer.toString(written.charAt(1)) : written;
    }

    private static void linesOfTheText(String readme) {
        Due.sentence("README, Use: the text");
        StringBuilder text = new StringBuilder();
        int kinds = 0;
        for (String line : between(readme, "### The text", "###").split("\n")) {
            Matcher shown = TEXT_LINE.matcher(line);
            if (shown.matches()) {
                text.append(shown.group(1)).append('\n');
                kinds++;
            }
        }
        Due.is("kinds of lines shown", "3", Integer.toString(kinds));
        Trial run = Trial.acting(text.toString());
        for (int what = 1; what <= 3; what++) {
            run.due(1, "told", 1, what);
        }
    }

    private static void callsAreNamed(String readme) {
        Due.sentence("README, Use: the calls");
        List<String> rows = List.of(between(readme, "### The calls", "## Tests").split("\n"));
        String code = between(readme, "```java\n", "```");
        for (Method m : CarrierText.class.getDeclaredMethods()) {
            if (Modifier.isPublic(m.getModifiers())) {
                Pattern row = Pattern.compile("\\| `" + m.getName() + "\\((\\w+, ){0,9}\\w*\\)` \\| .*");
                Pattern use = Pattern.compile("carriers\\." + m.getName() + "\\(");
                Due.is("rows of " + m.getName(), "1", "" + rows.stream().filter(r -> row.matcher(r).matches()).count());
                Due.is("the code uses " + m.getName(), "true", "" + use.matcher(code).find());
            }
        }
    }

    private static void choicesHold() {
        Due.sentence("README, Where the document leaves a choice");
        Trial run = Trial.acting("A:1:1:1::0+0\n/0000-0000:1\n");
        run.due(8, "label", 'A', 0);
        run.due(0, "label", 'A', 1);
        run.printed("A1-0000C");
        run.tell("A:1:1:1::01000");
        run.due(Due.BAD_ARGUMENT, "read", 1001);
        run.due(-11, "read", 1000);
        run.reads(-18, "B:1:1:1::0+0\n*B:3x", 0);
        run.reads(-18, "B:1:1:1::0+0\n*B:3", 0);
        run.tracks(-2, "a1-0000C");
        run.tracks(-2, "A1-0000c");
    }
}
