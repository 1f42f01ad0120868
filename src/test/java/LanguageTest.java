import java.io.IOException;
import java.lang.reflect.Constructor;
import java.lang.reflect.Field;
import java.lang.reflect.Method;
import java.lang.reflect.Modifier;
import java.nio.file.Files;
import java.nio.file.Path;
import java.util.ArrayList;
import java.util.Arrays;
import java.util.HashSet;
import java.util.List;
import java.util.Set;
import java.util.TreeSet;
import java.util.regex.Matcher;
import java.util.regex.Pattern;

/**
 * Whether the class has just the document's face, and whether its source keeps to those rules of LANGUAGE.md
 * that can be seen from words alone. Its working directory is the project's.
 */
public final class LanguageTest {
    private static final String FACE = "row(int,int) lay(int,int,int) at(int,int) tear(int) copy(int,int,int,int,int) "
            + "mean(int) text(int,int) put(int,int,int) fault(int) book(int) thief(int,int) mark(int,int) week() "
            + "back(int) cross(int) give(int) undo(int) keep(int) on(int) speak() safe() silent() heads(int) "
            + "best(int,int) ways(int) brings(int) fits(int) sure(int) ask(int) bold(int,int) kinds(int,int) "
            + "test(int,int) duel(int) sum(int) odds(int) mid(int) lots(int,int) asked() upper():long lower():long "
            + "count(int) finding() findings(int) digest():long";
    private static final String CONSTANTS = "BAD FULL FINDING STATE SPENT NONE";
    private static final String LIBRARY = "String Integer Math System Long";
    private static final String WORDS = "throw throws try catch finally synchronized assert import package var "
            + "volatile transient native strictfp Object equals hashCode toString Exception Random Thread";

    private static int wrong;

    private static void rule(int number, String what, boolean kept) {
        if (!kept) {
            wrong++;
            System.out.println("rule " + number + ": " + what);
        }
    }

    private static String faceOf(Method m) {
        List<String> types = new ArrayList<>();
        for (Class<?> type : m.getParameterTypes()) {
            types.add(type.getName());
        }
        String back = m.getReturnType() == int.class ? "" : ":" + m.getReturnType().getName();
        return m.getName() + "(" + String.join(",", types) + ")" + back;
    }

    private static Set<String> namesOf(String words) {
        return new TreeSet<>(Arrays.asList(words.split(" ")));
    }

    private static void face() {
        Set<String> methods = new TreeSet<>();
        for (Method m : TakerBook.class.getDeclaredMethods()) {
            if (!Modifier.isPrivate(m.getModifiers())) {
                rule(1, m + " is public and not static", m.getModifiers() == Modifier.PUBLIC);
                methods.add(faceOf(m));
            }
        }
        rule(1, "methods " + methods, methods.equals(namesOf(FACE)));
        Set<String> fields = new TreeSet<>();
        for (Field f : TakerBook.class.getDeclaredFields()) {
            if (!Modifier.isPrivate(f.getModifiers())) {
                fields.add(f.getName());
            }
        }
        rule(1, "constants " + fields, fields.equals(namesOf(CONSTANTS)));
        Constructor<?>[] made = TakerBook.class.getDeclaredConstructors();
        rule(1, "one constructor", made.length == 1 && made[0].getModifiers() == Modifier.PUBLIC
                && made[0].getParameterCount() == 0);
        rule(1, "public and final", TakerBook.class.getModifiers() == (Modifier.PUBLIC | Modifier.FINAL));
    }

    private static void inside() {
        Set<String> open = new HashSet<>();
        for (Method m : TakerBook.class.getMethods()) {
            open.add(m.getName());
        }
        List<Class<?>> all = new ArrayList<>(List.of(TakerBook.class.getDeclaredClasses()));
        rule(11, "some twelve classes", all.size() < 12);
        for (Class<?> c : all) {
            rule(2, c + " is static", Modifier.isStatic(c.getModifiers()));
            rule(1, c + " is private", !Modifier.isPublic(c.getModifiers()) && !Modifier.isProtected(c.getModifiers()));
            for (Method m : c.getDeclaredMethods()) {
                rule(1, m + " bears the name of a public one", !open.contains(m.getName()));
            }
        }
        all.add(TakerBook.class);
        for (Class<?> c : all) {
            int fields = 0;
            for (Field f : c.getDeclaredFields()) {
                boolean fixed = Modifier.isStatic(f.getModifiers());
                rule(5, f + " is final", !fixed || Modifier.isFinal(f.getModifiers()));
                fields += fixed ? 0 : 1;
            }
            rule(11, c + " has some twenty fields", fields <= 20);
            for (Method m : c.getDeclaredMethods()) {
                rule(11, m + " takes seven parameters at most", m.getParameterCount() <= 7);
            }
        }
    }

    private static void words(String source) {
        String code = source.replaceAll("(?s)/\\*.*?\\*/", "").replaceAll("//[^\n]*", "");
        for (String word : WORDS.split(" ")) {
            rule(6, word, !Pattern.compile("\\b" + word + "\\b").matcher(code).find());
        }
        rule(2, "a lambda or a method reference", !code.contains("->") && !code.contains("::"));
        rule(3, "signs beyond 127", source.chars().allMatch(c -> c < 128));
        Matcher library = Pattern.compile("\\b([A-Z][a-z]\\w*)\\.").matcher(code);
        while (library.find()) {
            String name = library.group(1);
            rule(4, name, code.contains("class " + name + " ") || namesOf(LIBRARY).contains(name));
        }
        Matcher calls = Pattern.compile("\\b(Integer|Math|System)\\.(\\w+)").matcher(code);
        while (calls.find()) {
            rule(4, calls.group(), namesOf("bitCount max min arraycopy").contains(calls.group(2)));
        }
        for (String line : code.split("\n")) {
            boolean makes = Pattern.compile("\\bnew\\b").matcher(line).find();
            boolean field = line.contains("final ") && line.contains(" = ") || line.trim().startsWith("new Thief(), ");
            rule(12, "made elsewhere than with the object: " + line.trim(), !makes || field);
        }
    }

    private static void lengths(String source) {
        int from = 0;
        String[] lines = source.split("\n");
        for (int n = 0; n < lines.length; n++) {
            rule(11, "line " + (n + 1) + " is long", lines[n].length() <= 120);
            if (lines[n].matches(" {4}( {4})?\\w.*\\(.*\\) \\{")) {
                from = n;
            } else if (lines[n].matches(" {4}( {4})?}")) {
                rule(11, lines[from].trim() + " is long", !lines[from].contains("(") || n - from <= 60);
            }
        }
    }

    public static void main(String[] args) throws IOException {
        String source = Files.readString(Path.of("src/main/java/TakerBook.java"));
        face();
        inside();
        words(source);
        lengths(source);
        System.out.println(wrong == 0 ? "the face and the rules that words tell are kept" : wrong + " rules are not kept");
        if (wrong != 0) {
            System.exit(1);
        }
    }
}
