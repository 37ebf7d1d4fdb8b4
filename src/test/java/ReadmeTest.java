import java.lang.reflect.Method;
import java.nio.file.Files;
import java.nio.file.Path;
import java.util.TreeSet;
import java.util.regex.Matcher;
import java.util.regex.Pattern;

/** Makes the calls of README.md's examples, from its first line to its last one, and holds their answers against those told there. */
public final class ReadmeTest {
    private static final Pattern CALL = Pattern.compile("desk\\.(\\w+)\\(([^)]*)\\);\\s*// (true|false|-?\\d+)\\b.*");

    private final Check check = new Check();
    private final TreeSet<String> unused = new TreeSet<>();
    private MixDesk desk = null;

    public static void main(String[] args) throws Exception {
        new ReadmeTest().read();
    }

    private void read() throws Exception {
        check.title("README.md");
        for (Method method : MixDesk.class.getMethods()) {
            if (method.getDeclaringClass() == MixDesk.class) {
                unused.add(method.getName());
            }
        }
        boolean code = false;
        for (String line : Files.readAllLines(Path.of("README.md"))) {
            if (line.startsWith("```")) {
                code = line.equals("```java");
            } else if (code) {
                call(line);
            }
        }
        check.due("calls without an example: " + unused, unused.size(), 0);
        check.end();
    }

    private void call(String line) throws Exception {
        if (line.equals("MixDesk desk = new MixDesk();")) {
            desk = new MixDesk();
            return;
        }
        Matcher call = CALL.matcher(line);
        check.due(line + " (is a call with its answer)", call.matches(), true);
        if (call.matches()) {
            check.due(line, answer(call.group(1), call.group(2)), number(call.group(3)));
            unused.remove(call.group(1));
        }
    }

    private int answer(String name, String given) throws Exception {
        String[] texts = given.isEmpty() ? new String[0] : given.split(", ");
        for (Method method : MixDesk.class.getMethods()) {
            if (method.getName().equals(name) && method.getParameterCount() == texts.length) {
                Object[] arguments = new Object[texts.length];
                for (int i = 0; i < texts.length; i++) {
                    arguments[i] = method.getParameterTypes()[i] == boolean.class ? (Object) texts[i].equals("true") : (Object) number(texts[i]);
                }
                return number(method.invoke(desk, arguments).toString());
            }
        }
        throw new IllegalStateException("no such call: " + name + "(" + given + ")");
    }

    private static int number(String text) {
        return text.equals("true") ? 1 : text.equals("false") ? 0 : Integer.parseInt(text);
    }
}
