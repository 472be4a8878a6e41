import java.io.IOException;
import java.lang.reflect.Method;
import java.lang.reflect.Modifier;
import java.nio.charset.StandardCharsets;
import java.nio.file.Files;
import java.nio.file.Path;
import java.util.regex.Matcher;
import java.util.regex.Pattern;

/** README.md: its example answers what it says, and its tables have every call and every refusal. */
public final class ReadmeTest {
    private static final Check c = new Check("ReadmeTest");
    private static final Pattern CALL = Pattern.compile("^x\\.(\\w+)\\(([^)]*)\\);\\s+// (.*)$", Pattern.MULTILINE);
    private static final String[] REFUSALS = {"`NOT - 1` | BAD", "`NOT - 2` | STATE",
        "`NOT - 3` | FULL", "`NOT - 11` | NULL", "`NOT - 12` | PLACE", "`NOT - 13` | KIND",
        "`NOT - 14` | SIZE", "`NOT - 15` | STORE", "`NOT - 100 - p`"};

    public static void main(String[] args) throws IOException, ReflectiveOperationException {
        // .ci/run runs the tests in the project's folder.
        String page = Files.readString(Path.of("README.md"), StandardCharsets.UTF_8);
        example(page);
        tables(page);
        c.end();
    }

    private static void example(String page) throws ReflectiveOperationException {
        WoodForTwo x = new WoodForTwo();
        int fed = 0;
        Matcher calls = CALL.matcher(page);
        while (calls.find()) {
            String comment = calls.group(3);
            String[] given = calls.group(2).isEmpty() ? new String[0] : calls.group(2).split(", ");
            long answer = answerOf(x, calls.group(1), given);
            if (comment.startsWith("\"")) {
                String text = comment.substring(1, comment.lastIndexOf('"'));
                c.due("the text of " + given[0], Long.decode(given[0].replace("L", "")), packed(text));
                fed += text.length();
                c.due(calls.group(), answer, fed);
            } else {
                c.due(calls.group(), answer, Long.parseLong(comment.replaceAll("^(-?[0-9]+).*$", "$1")));
            }
        }
        yes("the example has a text", fed > 0);
    }

    private static long packed(String text) {
        long w = 0;
        for (int i = 0; i < text.length(); i++) {
            w = w << 8 | text.charAt(i);
        }
        return w;
    }

    private static long answerOf(WoodForTwo x, String name, String[] given)
            throws ReflectiveOperationException {
        for (Method m : WoodForTwo.class.getDeclaredMethods()) {
            Class<?>[] types = m.getParameterTypes();
            if (!m.getName().equals(name) || types.length != given.length) {
                continue;
            }
            Object[] values = new Object[types.length];
            for (int i = 0; i < values.length; i++) {
                long v = Long.decode(given[i].replace("L", ""));
                if (types[i] == long.class) {
                    values[i] = v;
                } else {
                    values[i] = (int) v;
                }
            }
            return ((Number) m.invoke(x, values)).longValue();
        }
        throw new NoSuchMethodException(name);
    }

    private static void tables(String page) {
        for (Method m : WoodForTwo.class.getDeclaredMethods()) {
            if (!Modifier.isPublic(m.getModifiers())) {
                continue;
            }
            Matcher row = Pattern.compile("^\\| `" + m.getName() + "\\(([^)]*)\\)` \\|", Pattern.MULTILINE)
                .matcher(page);
            boolean stands = row.find();
            yes("a row for " + m.getName(), stands);
            if (stands) {
                int told = row.group(1).isEmpty() ? 0 : row.group(1).split(", ").length;
                c.due("arguments of " + m.getName(), told, m.getParameterCount());
            }
        }
        for (String refusal : REFUSALS) {
            yes("a row for " + refusal, page.contains("\n| " + refusal + " |"));
        }
    }

    private static void yes(String what, boolean is) {
        c.due(what, is ? 1 : 0, 1);
    }
}
