import java.lang.reflect.Method;
import java.nio.file.Files;
import java.nio.file.Path;
import java.util.HashMap;
import java.util.Map;
import java.util.regex.Matcher;
import java.util.regex.Pattern;

/** The examples in README.md: each call answers the number that stands behind it. */
public final class ReadmeTest {
    private static final Checks C = new Checks("ReadmeTest");
    private static final Pattern CALL = Pattern.compile("(?:int (\\w+) = )?valley\\.(\\w+)\\(([^()]*)\\);\\s+// (-?\\d+)\\b.*");
    private static final Pattern TEXT = Pattern.compile("write\\(valley, \"([^\"]*)\"\\);");
    private static final Pattern OTHER = Pattern.compile(".*\\bvalley\\.\\w+\\(.*");
    private final WordSlides valley = new WordSlides();
    private final Map<String, Integer> names = new HashMap<>();

    public static void main(String[] args) throws Exception {
        ReadmeTest test = new ReadmeTest();
        boolean code = false;
        for (String line : Files.readString(Path.of("README.md")).split("\n")) {
            if (line.startsWith("```")) {
                code = line.equals("```java");
            } else if (code) {
                test.run(line);
            }
        }
        C.finish();
    }

    /** Lines of the example's helper stand further in; all others that call the valley are read. */
    private void run(String line) throws Exception {
        Matcher call = CALL.matcher(line);
        Matcher text = TEXT.matcher(line);
        if (text.matches()) {
            Texts.feed(valley, text.group(1));
        } else if (call.matches()) {
            int answer = answerOf(call.group(2), call.group(3));
            C.due(line, answer, Integer.parseInt(call.group(4)));
            if (call.group(1) != null) {
                names.put(call.group(1), answer);
            }
        } else if (!line.startsWith(" ")) {
            C.due("can be read: " + line, OTHER.matcher(line).matches() ? 0 : 1, 1);
        }
    }

    private int answerOf(String name, String arguments) throws Exception {
        String[] all = arguments.isEmpty() ? new String[0] : arguments.split(", ");
        Class<?>[] types = new Class<?>[all.length];
        Object[] values = new Object[all.length];
        for (int i = 0; i < all.length; i++) {
            types[i] = int.class;
            values[i] = valueOf(all[i]);
        }
        Method method = WordSlides.class.getMethod(name, types);
        return (int) method.invoke(valley, values);
    }

    private int valueOf(String argument) {
        if (argument.equals("WordSlides.NONE")) {
            return WordSlides.NONE;
        }
        return names.containsKey(argument) ? names.get(argument) : Integer.parseInt(argument);
    }
}
