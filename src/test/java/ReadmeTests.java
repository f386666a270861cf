import java.lang.reflect.Method;
import java.lang.reflect.Modifier;
import java.nio.file.Files;
import java.nio.file.Path;
import java.util.Set;
import java.util.TreeSet;
import java.util.regex.Matcher;
import java.util.regex.Pattern;

/** Runs README.md's examples, so that nobody is told there what the class does not answer. */
public final class ReadmeTests extends TownTest {
    private static final Pattern BLOCK = Pattern.compile("```java\n(.*?)```", Pattern.DOTALL);
    private static final Pattern TEXT = Pattern.compile("write\\(x, \"([^\"]*)\"\\);");
    private static final Pattern CALL = Pattern.compile("x\\.(\\w+)\\(([^)]*)\\);\\s*// (-?\\d+|[A-Z]+)\\b.*");
    private static final Set<String> shown = new TreeSet<>();

    private static Object number(String word, Class<?> type) {
        long number = Long.decode(word.trim());
        return type == long.class ? (Object) number : (Object) (int) number;
    }

    private static int answer(NextWay x, String name, String numbers) throws Exception {
        String[] words = numbers.isEmpty() ? new String[0] : numbers.split(",");
        for (Method m : NextWay.class.getDeclaredMethods()) {
            if (m.getName().equals(name) && m.getParameterCount() == words.length) {
                Object[] given = new Object[words.length];
                for (int i = 0; i < words.length; i++) {
                    given[i] = number(words[i], m.getParameterTypes()[i]);
                }
                return (Integer) m.invoke(x, given);
            }
        }
        throw new IllegalArgumentException("README.md: no such call: " + name);
    }

    private static int meant(String word) throws Exception {
        return word.matches("-?\\d+") ? Integer.parseInt(word) : NextWay.class.getField(word).getInt(null);
    }

    private static NextWay runRow(NextWay x, String row) throws Exception {
        Matcher text = TEXT.matcher(row);
        Matcher call = CALL.matcher(row);
        if (row.equals("NextWay x = new NextWay();")) {
            return new NextWay();
        }
        if (text.matches()) {
            write(x, text.group(1));
        } else if (call.matches()) {
            due("README.md: " + row, answer(x, call.group(1), call.group(2)), meant(call.group(3)));
            shown.add(call.group(1));
        } else {
            same("README.md: a row", row, "a text, or a call with its answer");
        }
        return x;
    }

    public static void main(String[] args) throws Exception {
        NextWay x = null;
        Matcher blocks = BLOCK.matcher(Files.readString(Path.of("README.md")));
        while (blocks.find()) {
            if (blocks.group(1).startsWith("static ")) {
                continue;
            }
            for (String row : blocks.group(1).split("\n")) {
                x = runRow(x, row);
            }
        }
        for (Method m : NextWay.class.getDeclaredMethods()) {
            if (Modifier.isPublic(m.getModifiers())) {
                due("README.md: examples of " + m.getName(), shown.contains(m.getName()) ? 1 : 0, 1);
            }
        }
        finish("README.md says what the class answers");
    }
}
