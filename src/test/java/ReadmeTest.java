import java.lang.reflect.Method;
import java.lang.reflect.Modifier;
import java.nio.file.Files;
import java.nio.file.Path;
import java.util.List;
import java.util.regex.Matcher;
import java.util.regex.Pattern;

/** README.md says how to use the class: its example, played call by call, and every call of the face named. */
public final class ReadmeTest {
    private static final Pattern TEXT = Pattern.compile("for \\(char c : \"(.*)\"\\.toCharArray\\(\\)\\) mill\\.type\\((\\d), c\\);.*");
    private static final Pattern CALL = Pattern.compile("mill\\.(\\w+)\\(([-0-9, ]*)\\);\\s*// (-?\\d+): .*");

    private ReadmeTest() {
    }

    private static void play(String example) throws Exception {
        TideMill mill = new TideMill();
        for (String line : example.strip().split("\n")) {
            Matcher text = TEXT.matcher(line);
            Matcher call = CALL.matcher(line);
            if (text.matches()) {
                Mills.type(mill, Integer.parseInt(text.group(2)), text.group(1));
            } else if (call.matches()) {
                long got = answer(mill, call.group(1), call.group(2));
                Due.is("README.md: " + line.strip(), got, Long.parseLong(call.group(3)));
            } else {
                Due.holds("README.md: a line that is played: " + line, line.equals("TideMill mill = new TideMill();"));
            }
        }
    }

    private static long answer(TideMill mill, String name, String told) throws Exception {
        List<String> numbers = told.isBlank() ? List.of() : List.of(told.split(", *"));
        Class<?>[] types = new Class<?>[numbers.size()];
        Object[] args = new Object[numbers.size()];
        for (int i = 0; i < args.length; i++) {
            types[i] = int.class;
            args[i] = Integer.valueOf(numbers.get(i));
        }
        return ((Number) TideMill.class.getMethod(name, types).invoke(mill, args)).longValue();
    }

    public static void main(String[] args) throws Exception {
        String readme = Files.readString(Path.of("README.md"));
        int from = readme.indexOf("```java\n");
        int to = readme.indexOf("```", from + 3);
        Due.holds("README.md has an example", from >= 0 && to > from);
        if (from >= 0 && to > from) {
            play(readme.substring(from + 8, to));
        }
        for (Method method : TideMill.class.getDeclaredMethods()) {
            boolean shown = Modifier.isPublic(method.getModifiers());
            Due.holds("README.md names " + method.getName(), !shown || readme.contains("`" + method.getName() + "`"));
        }
        Due.holds("README.md says how to run the tests", readme.contains(".ci/run"));
        Due.close("ReadmeTest");
    }
}
