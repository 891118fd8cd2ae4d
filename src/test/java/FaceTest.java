import java.lang.reflect.Constructor;
import java.lang.reflect.Field;
import java.lang.reflect.Method;
import java.lang.reflect.Modifier;
import java.nio.file.Files;
import java.nio.file.Path;
import java.util.ArrayDeque;
import java.util.Arrays;
import java.util.Deque;
import java.util.List;
import java.util.Set;
import java.util.TreeSet;
import java.util.regex.Matcher;
import java.util.regex.Pattern;

/** The public face, and those rules of LANGUAGE.md that can be looked up. */
public final class FaceTest {
    private static final String FACE = """
            int type(int, int)
            int wipe(int)
            int undo(int)
            int fault(int)
            int sea(int)
            int order(int, int)
            int set(int, int)
            int rain(int)
            int dressing(int)
            int back(int)
            int read(int)
            int at(int, int)
            int ends(int)
            int paid()
            int spilt()
            int idle()
            int late()
            int row(int)
            int dress(int)
            int least()
            int send(int)
            int seen(int, int)
            int forget()
            int never()
            int was(int)
            int ask()
            long shower(int, int, int)
            int moon(int, int, int)
            int sheet(int, int, int)
            int lose(int)
            int put(int, int, int, int)
            int get(int, int, int)
            int copy(int, int, int, int, int)
            int write(int)
            int count(int)
            long digest()
            """;
    private static final Set<String> LIBRARY = Set.of("Arrays.fill", "Math.max", "Math.min", "Integer.bitCount",
            "System.arraycopy");

    private FaceTest() {
    }

    private static void face() {
        Class<?> c = TideMill.class;
        Due.holds("the class is public and final", Modifier.isPublic(c.getModifiers()) && Modifier.isFinal(c.getModifiers()));
        Set<String> shown = new TreeSet<>();
        Set<String> names = new TreeSet<>();
        for (Method m : c.getDeclaredMethods()) {
            if (!Modifier.isPrivate(m.getModifiers())) {
                Due.holds(m + " is public, not static", (m.getModifiers() & ~Modifier.PUBLIC) == 0);
                shown.add(m.toString().replace("public ", "").replace("TideMill.", "").replace(",", ", "));
                names.add(m.getName());
            }
        }
        Due.holds("the methods are those of the face: " + shown, shown.equals(new TreeSet<>(List.of(FACE.split("\n")))));
        for (Class<?> each : all()) {
            for (Method m : each.getDeclaredMethods()) {
                boolean ofFace = each == c && !Modifier.isPrivate(m.getModifiers());
                Due.holds(m + " bears no name of the face", ofFace || !names.contains(m.getName()));
            }
        }
        Constructor<?>[] made = c.getDeclaredConstructors();
        Due.holds("one constructor, public, of nothing",
                made.length == 1 && made[0].getParameterCount() == 0 && Modifier.isPublic(made[0].getModifiers()));
        Set<String> constants = new TreeSet<>();
        for (Field f : c.getDeclaredFields()) {
            if (!Modifier.isPrivate(f.getModifiers())) {
                Due.holds(f + " is a constant", f.toString().startsWith("public static final int "));
                constants.add(f.getName());
            }
        }
        Due.holds("the constants " + constants, constants.equals(Set.of("NONE", "BAD", "NOT", "FULL")));
        Due.is("NONE", TideMill.NONE, -1);
        Due.is("BAD", TideMill.BAD, -2);
        Due.is("NOT", TideMill.NOT, -3);
        Due.is("FULL", TideMill.FULL, -4);
    }

    private static List<Class<?>> all() {
        List<Class<?>> all = new java.util.ArrayList<>(Arrays.asList(TideMill.class.getDeclaredClasses()));
        all.add(TideMill.class);
        return all;
    }

    private static void classes() {
        Due.holds("at most twelve classes", all().size() <= 12);
        for (Class<?> c : all()) {
            int own = 0;
            for (Field f : c.getDeclaredFields()) {
                boolean isStatic = Modifier.isStatic(f.getModifiers());
                own += isStatic ? 0 : 1;
                Due.holds(f + ", if static, is final", !isStatic || Modifier.isFinal(f.getModifiers()));
            }
            Due.holds(c + " has at most twenty fields", own <= 20);
            for (Method m : c.getDeclaredMethods()) {
                Due.holds(m + " has at most seven parameters", m.getParameterCount() <= 7);
            }
            if (c != TideMill.class) {
                Due.holds(c + " is static and not public",
                        Modifier.isStatic(c.getModifiers()) && (c.getModifiers() & (Modifier.PUBLIC | Modifier.PROTECTED)) == 0);
                Due.is("classes inside " + c, c.getDeclaredClasses().length, 0);
            }
        }
    }

    private static void source() throws Exception {
        String text = Files.readString(Path.of("src/main/java/TideMill.java"));
        Due.holds("signs are 1 to 127", text.chars().allMatch(sign -> sign >= 1 && sign <= 127));
        String code = text.replaceAll("(?s)/\\*.*?\\*/", "").replaceAll("//[^\n]*", "");
        for (String word : "throw throws try catch finally synchronized assert package instanceof enum new\\s+Object Thread float double"
                .split(" ")) {
            Due.holds("no " + word, !Pattern.compile("\\b" + word + "\\b").matcher(code).find());
        }
        Due.holds("no lambda, no method reference", !code.contains("->") && !code.contains("::"));
        Matcher imports = Pattern.compile("import[^;]*;").matcher(code);
        while (imports.find()) {
            Due.holds(imports.group(), imports.group().equals("import java.util.Arrays;"));
        }
        Matcher library = Pattern.compile("\\b(Arrays|Math|Integer|Long|System|String|Character)\\.\\w+").matcher(code);
        while (library.find()) {
            Due.holds(library.group() + " is in the list", LIBRARY.contains(library.group()));
        }
        methodsAreShort(text);
    }

    /** Blocks inside a class that begin with a parameter list are methods; some sixty lines are the limit. */
    private static void methodsAreShort(String text) {
        String[] lines = text.split("\n");
        Deque<Integer> open = new ArrayDeque<>();
        for (int i = 0; i < lines.length; i++) {
            Due.holds("line " + (i + 1) + " has at most 130 signs", lines[i].length() <= 130);
            for (char c : lines[i].toCharArray()) {
                if (c == '{') {
                    open.push(i);
                } else if (c == '}') {
                    int from = open.pop();
                    boolean method = lines[from].matches(" {4,8}[a-zA-Z].*\\).*\\{");
                    Due.holds("the method from line " + (from + 1) + " is short", !method || i - from <= 60);
                }
            }
        }
    }

    public static void main(String[] args) throws Exception {
        face();
        classes();
        source();
        Due.close("FaceTest");
    }
}
