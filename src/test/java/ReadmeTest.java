import java.lang.reflect.Method;
import java.nio.charset.StandardCharsets;
import java.nio.file.Files;
import java.nio.file.Path;
import java.util.regex.Matcher;
import java.util.regex.Pattern;

/** The run of calls that README.md shows: each call there must answer what the comment behind it begins with. */
public final class ReadmeTest {
    private static final Pattern CALL = Pattern.compile("^x\\.(\\w+)\\(([-0-9, ]*)\\);\\s*// (-?\\d+): .+$");
    private static final Pattern TEXT = Pattern.compile("^feed\\(x, \"([^\"]*)\"\\);\\s*// (-?\\d+): .+$");
    private static int wrong = 0;
    private static int calls = 0;

    private static int feed(IronedFlat x, String text) {
        int has = 0;
        for (int i = 0; i < text.length(); i += 8) {
            int n = Math.min(8, text.length() - i);
            long eight = 0;
            for (int j = 0; j < n; j++) eight |= (text.charAt(i + j) & 255L) << 8 * j;
            has = x.feed(eight, n);
        }
        return has;
    }

    private static int call(IronedFlat x, String name, String args) throws Exception {
        String[] told = args.isBlank() ? new String[0] : args.split(", *");
        Object[] values = new Object[told.length];
        for (int i = 0; i < told.length; i++) values[i] = Integer.parseInt(told[i]);
        for (Method m : IronedFlat.class.getMethods()) {
            if (m.getName().equals(name) && m.getParameterCount() == values.length) return (int) m.invoke(x, values);
        }
        throw new IllegalStateException("README.md has a call that is none: " + name);
    }

    private static void due(String line, int got, String want) {
        calls++;
        if (got == Integer.parseInt(want)) return;
        wrong++;
        System.out.println("README.md: " + line + " (answered " + got + ")");
    }

    private static void goThrough(String block) throws Exception {
        IronedFlat x = null;
        for (String line : block.split("\n")) {
            Matcher call = CALL.matcher(line);
            Matcher text = TEXT.matcher(line);
            if (line.equals("IronedFlat x = new IronedFlat();")) x = new IronedFlat();
            else if (call.matches()) due(line, call(x, call.group(1), call.group(2)), call.group(3));
            else if (text.matches()) due(line, feed(x, text.group(1)), text.group(2));
            else if (!line.isBlank() && !line.startsWith("//")) throw new IllegalStateException("README.md has a line that can't be tested: " + line);
        }
    }

    public static void main(String[] args) throws Exception {
        String readme = Files.readString(Path.of("README.md"), StandardCharsets.UTF_8);
        Matcher block = Pattern.compile("(?s)```java\n(IronedFlat x.*?)```").matcher(readme);
        while (block.find()) goThrough(block.group(1));
        System.out.println("ReadmeTest: " + calls + " calls, " + wrong + " faults");
        if (wrong != 0 || calls == 0) System.exit(1);
    }
}
