import java.io.IOException;
import java.lang.reflect.Method;
import java.lang.reflect.Modifier;
import java.nio.file.Files;
import java.nio.file.Path;
import java.util.TreeSet;
import java.util.regex.Matcher;
import java.util.regex.Pattern;
import java.util.stream.Stream;

/**
 * Whether README.md can be gone by: the answers in its example are those of the class, and it names each call,
 * each constant and each test. Its working directory is the project's.
 */
public final class ReadmeTest extends Sentences {
    private static final Pattern EXAMPLE = Pattern.compile("(?s)```java\n(.*?)```");
    private static final Pattern TEXT = Pattern.compile("String text = \"([^\"]*)\";");
    private static final Pattern ANSWERED = Pattern.compile("(?m)^x\\.(\\w+\\([^;]*\\)); *// (-?\\d+)\\b");
    private static final Pattern TABLE = Pattern.compile("(?s)\n### The calls\n(.*?)\n## ");
    private static final Pattern CALL = Pattern.compile("(?m)^x\\.\\w+\\(");
    private static final String LENGTH = "text.length()";

    private static int wrong;

    private static void holds(String what, boolean held) {
        if (!held) {
            wrong++;
            System.out.println("README.md, not so: " + what);
        }
    }

    /** The bytes are put as soon as the text is there, as the example does by a loop. */
    private static void example(String readme) {
        Matcher block = EXAMPLE.matcher(readme);
        String example = block.find() ? block.group(1) : "";
        Matcher text = TEXT.matcher(example);
        boolean hasText = text.find();
        holds("it has an example with a text", hasText);
        if (!hasText) {
            return;
        }
        Book b = new Book();
        long answers = 0;
        Matcher answered = ANSWERED.matcher(example);
        while (answered.find()) {
            String call = answered.group(1).replace(LENGTH, "" + text.group(1).length());
            long got = b.answer(call);
            holds(call + " answers " + answered.group(2) + ", but " + got,
                    got == Long.parseLong(answered.group(2)));
            if (call.startsWith("text(0, ")) {
                b.write(0, text.group(1));
            }
            answers++;
        }
        holds("each call of the example says what it answers", answers == CALL.matcher(example).results().count());
    }

    private static void names(String readme) throws IOException {
        TreeSet<String> calls = new TreeSet<>();
        for (Method m : TakerBook.class.getDeclaredMethods()) {
            if (Modifier.isPublic(m.getModifiers())) {
                calls.add(m.getName());
            }
        }
        Matcher table = TABLE.matcher(readme);
        String rows = table.find() ? table.group(1) : "";
        for (String name : calls) {
            holds(name + "() is told of", rows.contains("`" + name + "("));
        }
        Object[][] constants = {{"BAD", TakerBook.BAD}, {"FULL", TakerBook.FULL}, {"FINDING", TakerBook.FINDING},
            {"STATE", TakerBook.STATE}, {"SPENT", TakerBook.SPENT}, {"NONE", TakerBook.NONE}};
        for (Object[] c : constants) {
            holds(c[0] + " is told of", readme.contains("| " + c[1] + " | `" + c[0] + "` |"));
        }
        try (Stream<Path> tests = Files.list(Path.of("src/test/java"))) {
            tests.map(p -> p.getFileName().toString().replace(".java", "").replaceAll("^(BoundariesOf).*(Test)$", "$1..$2"))
                    .distinct().forEach(name -> holds(name + " is told of", readme.contains("- `" + name + "`")));
        }
    }

    public static void main(String[] args) throws IOException {
        String readme = Files.readString(Path.of("README.md"));
        example(readme);
        names(readme);
        System.out.println(wrong == 0 ? "README.md says what holds" : wrong + " things in README.md do not hold");
        if (wrong != 0) {
            System.exit(1);
        }
    }
}
