import java.lang.reflect.Method;
import java.nio.charset.StandardCharsets;
import java.nio.file.Files;
import java.nio.file.Path;
import java.util.ArrayList;
import java.util.List;
import java.util.regex.Matcher;
import java.util.regex.Pattern;

// The Java that README.md shows, call by call: each must answer what stands behind it, and each
// call of the face must stand in README.md. Run from the project's folder.
public final class ReadmeTest {
    private static final Pattern NEW = Pattern.compile("WordTerminator x = new WordTerminator\\(\\);.*");
    private static final Pattern TYPED = Pattern.compile("for \\(char c : \"(.*)\"\\.toCharArray\\(\\)\\) x\\.type\\(c\\);.*");
    private static final Pattern CALL = Pattern.compile("x\\.(\\w+)\\(([-0-9, ]*)\\);\\s+// (-?\\d+).*");

    private WordTerminator x = new WordTerminator();
    private int calls = 0;

    public static void main(String[] args) throws Exception {
        String readme = Files.readString(Path.of("README.md"), StandardCharsets.UTF_8);
        ReadmeTest test = new ReadmeTest();
        Matcher blocks = Pattern.compile("```java\n(.*?)```", Pattern.DOTALL).matcher(readme);
        while (blocks.find()) {
            for (String line : blocks.group(1).split("\n")) {
                test.follow(line.strip());
            }
        }
        Check.holds("README.md shows calls", test.calls > 0);
        for (Method method : WordTerminator.class.getDeclaredMethods()) {
            boolean open = (method.getModifiers() & java.lang.reflect.Modifier.PUBLIC) != 0;
            boolean named = Pattern.compile("\\b" + method.getName() + "\\(").matcher(readme).find();
            Check.holds("README.md names " + method.getName() + "()", !open || named);
        }
        Check.end();
    }

    private void follow(String line) throws Exception {
        Matcher typed = TYPED.matcher(line);
        Matcher call = CALL.matcher(line);
        if (NEW.matcher(line).matches()) {
            x = new WordTerminator();
        } else if (typed.matches()) {
            Check.type(x, typed.group(1));
        } else if (call.matches()) {
            Check.due("README.md: " + line, ask(call.group(1), call.group(2)), Long.parseLong(call.group(3)));
            calls++;
        } else {
            Check.holds("a line of README.md that is understood: " + line, line.isEmpty());
        }
    }

    private long ask(String name, String args) throws Exception {
        List<Object> numbers = new ArrayList<>();
        for (String each : args.isBlank() ? new String[0] : args.split(",")) {
            numbers.add(Integer.valueOf(each.strip()));
        }
        Class<?>[] types = new Class<?>[numbers.size()];
        java.util.Arrays.fill(types, int.class);
        Method method = WordTerminator.class.getMethod(name, types);
        return ((Number) method.invoke(x, numbers.toArray())).longValue();
    }
}
