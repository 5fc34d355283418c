import java.io.IOException;
import java.lang.reflect.Method;
import java.nio.file.Files;
import java.nio.file.Path;
import java.util.regex.Matcher;
import java.util.regex.Pattern;

/** Each call of README.md's example answers what stands behind it; each call of the face stands in its table. */
public final class ReadmeTests {
    private static final Pattern TEXT = Pattern.compile("for \\(char c : \"([^\"]*)\"");
    private static final Pattern CALL = Pattern.compile("^x\\.(\\w+)\\((.*)\\); +// (-?\\d+|[A-Z]+):");

    public static void main(String[] args) throws IOException, ReflectiveOperationException {
        String page = Files.readString(Path.of("README.md"));
        Due.says("README.md");
        Matcher text = TEXT.matcher(page);
        Due.is("a text is fed", text.find() ? 1 : 0, 1);
        BoundBraces x = new BoundBraces();
        Due.feed(x, text.group(1));
        int calls = 0;
        for (String line : page.split("\n")) {
            Matcher call = CALL.matcher(line);
            if (!call.find()) continue;
            calls++;
            Due.is(line, answer(x, call.group(1), call.group(2)), due(call.group(3)));
        }
        Due.is("calls of the example", calls, 11);
        for (Method m : BoundBraces.class.getMethods()) {
            if (m.getDeclaringClass() != BoundBraces.class) continue;
            Due.is("the table has " + m.getName(), page.contains("`" + m.getName() + "`") ? 1 : 0, 1);
        }
        Due.done();
    }

    private static int due(String words) throws ReflectiveOperationException {
        boolean isName = Character.isLetter(words.charAt(0));
        return isName ? BoundBraces.class.getField(words).getInt(null) : Integer.parseInt(words);
    }

    private static int answer(BoundBraces x, String name, String words) throws ReflectiveOperationException {
        String[] parts = words.isEmpty() ? new String[0] : words.split(", ");
        Object[] arguments = new Object[parts.length];
        for (int i = 0; i < parts.length; i++) {
            boolean isTruth = parts[i].equals("true") || parts[i].equals("false");
            arguments[i] = isTruth ? (Object) Boolean.valueOf(parts[i]) : (Object) Integer.valueOf(parts[i]);
        }
        for (Method m : BoundBraces.class.getMethods()) {
            if (m.getName().equals(name)) return (int) m.invoke(x, arguments);
        }
        throw new NoSuchMethodException(name);
    }
}
