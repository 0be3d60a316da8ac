import java.io.IOException;
import java.lang.reflect.InvocationTargetException;
import java.lang.reflect.Method;
import java.nio.file.Files;
import java.nio.file.Path;
import java.util.Arrays;
import java.util.TreeSet;
import java.util.regex.Matcher;
import java.util.regex.Pattern;
import java.util.stream.Collectors;

/** What README.md says of the class: the answers behind its lines of code, and that no call is left out. */
public final class ReadmeTest {
    private static final Pattern BLOCK = Pattern.compile("(?s)```java\n(.*?)```");
    private static final Pattern LINE = Pattern.compile("^board\\.(\\w+)\\(([^)]*)\\);\\s*// (-?\\d+|\\w+Exception)\\b.*$");
    private static final Due due = new Due();

    public static void main(String[] args) throws IOException {
        String readme = Files.readString(Path.of("README.md"));
        TreeSet<String> shown = new TreeSet<>();
        Matcher blocks = BLOCK.matcher(readme);
        while (blocks.find()) {
            runBlock(blocks.group(1), shown);
        }
        String face = Files.readString(Path.of("..", "shared", "DOC.md"));
        Matcher calls = Pattern.compile("    public (?:int|long) (\\w+)\\(([^)]*)\\)").matcher(face);
        while (calls.find()) {
            String signature = "| `" + calls.group(1) + "(" + parameterNames(calls.group(2)) + ")` |";
            due.compare(signature, "there", readme.contains(signature) ? "there" : "missing");
            due.compare("an example of " + calls.group(1), "there", shown.contains(calls.group(1)) ? "there" : "missing");
        }
        due.end();
    }

    private static void runBlock(String block, TreeSet<String> shown) {
        CreepBoard board = new CreepBoard();
        for (String text : block.split("\n")) {
            if (text.equals("CreepBoard board = new CreepBoard();")) {
                continue;
            }
            Matcher line = LINE.matcher(text);
            if (!line.matches()) {
                due.compare(text, "a call and its answer", "something else");
                continue;
            }
            shown.add(line.group(1));
            String want = line.group(3);
            due.compare(text, want.endsWith("Exception") ? "throws." + want : want,
                    answer(board, line.group(1), line.group(2)));
        }
    }

    private static String answer(CreepBoard board, String name, String told) {
        String[] words = told.isBlank() ? new String[0] : told.split(", *");
        for (Method method : CreepBoard.class.getMethods()) {
            if (method.getName().equals(name) && method.getParameterCount() == words.length) {
                return invoke(board, method, words);
            }
        }
        return "no such call";
    }

    private static String invoke(CreepBoard board, Method method, String[] words) {
        Object[] arguments = new Object[words.length];
        for (int i = 0; i < words.length; i++) {
            boolean truth = method.getParameterTypes()[i] == boolean.class;
            arguments[i] = truth ? (Object) Boolean.valueOf(words[i]) : (Object) Integer.valueOf(words[i]);
        }
        try {
            return method.invoke(board, arguments).toString();
        } catch (InvocationTargetException e) {
            return "throws." + e.getCause().getClass().getSimpleName();
        } catch (IllegalAccessException e) {
            return "not open";
        }
    }

    private static String parameterNames(String parameters) {
        return Arrays.stream(parameters.split(", *")).map(p -> p.substring(p.indexOf(' ') + 1)).collect(Collectors.joining(", "));
    }
}
