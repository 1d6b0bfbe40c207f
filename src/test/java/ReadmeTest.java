import java.io.IOException;
import java.lang.reflect.Method;
import java.lang.reflect.Modifier;
import java.nio.file.Files;
import java.nio.file.Path;
import java.util.Set;
import java.util.TreeSet;
import java.util.regex.Matcher;
import java.util.regex.Pattern;

/** What README.md says of the class is so: the answers of its example, and the calls it lists. */
public final class ReadmeTest {
    private static final Check CHECK = new Check();
    private static final Pattern EXAMPLE = Pattern.compile("```java\n(.*?)```", Pattern.DOTALL);
    private static final Pattern CALL = Pattern.compile("house\\.(\\w+)\\(([^)]*)\\);");
    private static final Pattern DUE = Pattern.compile("// (-?\\d+)\\b");
    private static final Pattern ROW = Pattern.compile("\\| `(\\w+)\\(([^)]*)\\)` \\|");

    public static void main(String[] args) throws IOException {
        String text = Files.readString(Path.of("README.md"));
        answersAreAsWritten(text);
        everyCallIsListed(text);
        CHECK.finish();
    }

    private static void answersAreAsWritten(String text) {
        Matcher example = EXAMPLE.matcher(text);
        CHECK.same("there is an example", "" + example.find(), "true");
        RoommateHouse house = new RoommateHouse();
        int compared = 0;
        for (String line : example.group(1).split("\n")) {
            String got = answerOfLast(house, line);
            Matcher due = DUE.matcher(line);
            if (due.find()) {
                CHECK.same(line, got, due.group(1));
                compared++;
            }
        }
        CHECK.same("the example tells answers", "" + (compared > 0), "true");
    }

    private static String answerOfLast(RoommateHouse house, String line) {
        String got = "nothing";
        Matcher call = CALL.matcher(line);
        while (call.find()) {
            String name = call.group(1);
            Object[] arguments = arguments(call.group(2));
            got = Check.answer(() -> ask(house, name, arguments));
        }
        return got;
    }

    private static Object[] arguments(String text) {
        if (text.isEmpty()) {
            return new Object[0];
        }
        String[] words = text.split(", ");
        Object[] arguments = new Object[words.length];
        for (int i = 0; i < words.length; i++) {
            boolean isFlag = words[i].equals("true") || words[i].equals("false");
            arguments[i] = isFlag ? Boolean.valueOf(words[i]) : Integer.valueOf(words[i]);
        }
        return arguments;
    }

    private static int ask(RoommateHouse house, String name, Object[] arguments) {
        for (Method method : RoommateHouse.class.getDeclaredMethods()) {
            if (isOpen(method) && method.getName().equals(name)) {
                try {
                    return (Integer) method.invoke(house, arguments);
                } catch (ReflectiveOperationException e) {
                    throw new IllegalStateException(e);
                }
            }
        }
        throw new IllegalArgumentException("no such call: " + name);
    }

    private static void everyCallIsListed(String text) {
        Set<String> listed = new TreeSet<>();
        Matcher row = ROW.matcher(text);
        while (row.find()) {
            listed.add(row.group(1) + " of " + arity(row.group(2)));
        }
        Set<String> open = new TreeSet<>();
        for (Method method : RoommateHouse.class.getDeclaredMethods()) {
            if (isOpen(method)) {
                open.add(method.getName() + " of " + method.getParameterCount());
            }
        }
        CHECK.same("the calls listed", listed.toString(), open.toString());
    }

    private static int arity(String parameters) {
        return parameters.isEmpty() ? 0 : parameters.split(", ").length;
    }

    private static boolean isOpen(Method method) {
        return Modifier.isPublic(method.getModifiers());
    }
}
