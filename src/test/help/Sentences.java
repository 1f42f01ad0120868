import java.io.IOException;
import java.lang.reflect.InvocationTargetException;
import java.lang.reflect.Method;
import java.nio.file.Files;
import java.nio.file.Path;
import java.util.Arrays;
import java.util.HashMap;
import java.util.Map;
import java.util.TreeSet;
import java.util.function.Consumer;

/**
 * What the tests of the sentences share. For each sentence of the document that names a boundary case (too
 * small, too large, empty, full, a wrap-around, a refused call) there is a test of its own, which quotes the
 * sentence and names its promise (0: what stands ahead of promise 1). A quotation that does not stand in the
 * document is a fault, too.
 *
 * Calls are written as texts and made by their names, so that what is printed is what was called; each
 * object counts its calls, as the document promises nothing behind the 512th.
 */
abstract class Sentences {
    static final int BAD = -1, FULL = -2, FINDING = -3, STATE = -4, SPENT = -6, NONE = -9;
    static final int NOTHING = 1, BEYOND = 2, UNLIKE = 3, NOUGHT = 4, SIZE = 5;
    static final int LEAST = Integer.MIN_VALUE, MOST = Integer.MAX_VALUE;
    /** One of each kind. They steal 3, 6, 3, 5, 3, 3; heads bring 4, 5, 2, 5, 6, 3; all but 1 speak. */
    static final String ALL = "k4242 t360 r591 c770 g481 l292 y630";
    /** Bounty 5, fee 3, fear 2, a bench of 6: nobody speaks. They steal 4, 3, 2; heads bring 5, 5, 2. */
    static final String CALM = "k5326 t400 t310 c500";
    /** Tried in the first week: one bold thief, bounty 3, fee 2, no fear, a bench of 1. */
    static final String BOLD = "k3201 t590";
    /** One lace, bounty 2, fee 3, a bench of 1: he steals 4 a week, and speaks as soon as he has 2 crosses. */
    static final String LACED = "k2301 l300";

    private static final Map<String, Method> FACE = readFace();
    private static final TreeSet<Integer> TESTED = new TreeSet<>();
    private static final String DOCUMENT = readDocument();
    private static int promise;
    private static String words = "";
    private static int sentences;
    private static int wrong;

    private static void wrong(String what) {
        wrong++;
        System.out.println("promise " + promise + " (\"" + words + "\"): " + what);
    }

    /** One object of the class, used by calls that are written as texts. */
    static final class Book {
        private final TakerBook taker = new TakerBook();
        int calls;

        static Book of(String text) {
            Book b = new Book();
            b.write(0, text);
            b.due("fault(0)", NONE);
            b.due("book(0)", text.replace(" ", "").length() / 4 - 1);
            return b;
        }

        long answer(String call) {
            calls++;
            if (calls > 512) {
                wrong("the test makes more than 512 calls by " + call);
            }
            String name = call.substring(0, call.indexOf('('));
            String inside = call.substring(name.length() + 1, call.length() - 1);
            Object[] numbers = inside.isEmpty() ? new Object[0]
                    : Arrays.stream(inside.split(", ")).map(Sentences::number).toArray();
            try {
                return ((Number) FACE.get(name).invoke(taker, numbers)).longValue();
            } catch (IllegalAccessException | InvocationTargetException e) {
                wrong(call + " threw " + e.getCause());
                return Long.MIN_VALUE;
            }
        }

        void due(String call, long want) {
            long got = answer(call);
            if (got != want) {
                wrong(call + " answered " + got + ", due is " + want);
            }
        }

        /** Calls that are not refused; what they answer is not looked at. */
        void does(String... several) {
            for (String call : several) {
                long got = answer(call);
                if (got == BAD || got == FULL || got == STATE || got == SPENT || got == FINDING) {
                    wrong(call + " was refused by " + got);
                }
            }
        }

        void times(int n, String call) {
            for (int i = 0; i < n; i++) {
                does(call);
            }
        }

        void told(String call, long want, long asked) {
            due(call, want);
            long got = answer("asked()");
            if (got != asked) {
                wrong("asked() behind " + call + " answered " + got + ", due is " + asked);
            }
        }

        /** A call that answers 1 and tells by asked(). */
        void tells(String call, long asked) {
            told(call, 1, asked);
        }

        void numbers(String call, long upper, long lower) {
            due(call, 1);
            long u = answer("upper()");
            long l = answer("lower()");
            if (u != upper || l != lower) {
                wrong(call + " told " + u + " by " + l + ", due is " + upper + " by " + lower);
            }
        }

        /** What each thief tells by thief(), in turn. */
        void each(int what, int... told) {
            for (int i = 0; i < told.length; i++) {
                tells("thief(" + i + ", " + what + ")", told[i]);
            }
        }

        void counts(int... told) {
            for (int what = 0; what < told.length; what++) {
                due("count(" + what + ")", told[what]);
            }
        }

        private long[] state() {
            return new long[] {answer("digest()"), answer("asked()"), answer("upper()"), answer("lower()"),
                answer("finding()"), answer("findings(1)"), answer("findings(2)"), answer("findings(3)"),
                answer("findings(4)"), answer("findings(5)")};
        }

        private void stays(int finding, int answer, String... several) {
            long[] state = state();
            for (String call : several) {
                due(call, answer);
                if (finding != 0) {
                    state[4] = finding;
                    state[4 + finding]++;
                }
                long[] then = state();
                if (!Arrays.equals(state, then)) {
                    wrong(call + " left " + Arrays.toString(then) + ", due is " + Arrays.toString(state));
                }
                state = then;
            }
        }

        /** Calls that are refused by this answer (or are answered NONE), and change nothing at all. */
        void refused(int answer, String... several) {
            stays(0, answer, several);
        }

        /** Calls that are refused by this finding, and change nothing else. */
        void finds(int finding, String... several) {
            stays(finding, FINDING, several);
        }

        void write(int t, String text) {
            due("text(" + t + ", " + text.length() + ")", text.length());
            for (int i = 0; i < text.length(); i++) {
                if (text.charAt(i) != ' ') {
                    due("put(" + t + ", " + i + ", " + (int) text.charAt(i) + ")", 1032);
                }
            }
        }

        void lay(int r, int... numbers) {
            due("row(" + r + ", " + numbers.length + ")", numbers.length);
            for (int i = 0; i < numbers.length; i++) {
                due("lay(" + r + ", " + i + ", " + numbers[i] + ")", 1);
            }
        }

        /** That a row has these ints, and no more. */
        void holds(int r, int... numbers) {
            for (int i = 0; i < numbers.length; i++) {
                tells("at(" + r + ", " + i + ")", numbers[i]);
            }
            due("at(" + r + ", " + numbers.length + ")", FINDING);
            due("finding()", BEYOND);
        }

        void fault(String text, int place) {
            write(3, text);
            long got = answer("fault(3)");
            if (got != place) {
                wrong("the fault of \"" + text + "\" is told as " + got + ", due is " + place);
            }
        }
    }

    private static Object number(String word) {
        return switch (word) {
            case "MOST" -> MOST;
            case "LEAST" -> LEAST;
            case "NONE" -> NONE;
            default -> Integer.parseInt(word);
        };
    }

    static Book tried() {
        Book b = Book.of(BOLD);
        b.told("week()", 0, 1);
        return b;
    }

    static Book full() {
        Book b = Book.of(CALM);
        b.times(40, "week()");
        return b;
    }

    /** A test of one sentence, on a new object: without a book, or of the text. */
    static void sentence(int of, String quoted, String text, Consumer<Book> body) {
        promise = of;
        words = quoted;
        sentences++;
        TESTED.add(of);
        if (!DOCUMENT.isEmpty() && !section(of).contains(quoted)) {
            wrong("does not stand there");
        }
        body.accept(text.isEmpty() ? new Book() : Book.of(text));
    }

    /** What the document says of a promise; of 0: all that stands ahead of promise 1. */
    private static String section(int of) {
        int from = of == 0 ? 0 : DOCUMENT.indexOf("## Promise " + of + ":");
        int to = DOCUMENT.indexOf("## ", of == 0 ? DOCUMENT.indexOf("## Promise 1:") : from + 3);
        return from < 0 ? "" : DOCUMENT.substring(from, to < 0 ? DOCUMENT.length() : to);
    }

    private static String readDocument() {
        Path path = Path.of("..", "shared", "DOC.md");
        try {
            return Files.isReadable(path) ? Files.readString(path).replaceAll("\\s+", " ") : "";
        } catch (IOException e) {
            return "";
        }
    }

    private static Map<String, Method> readFace() {
        Map<String, Method> face = new HashMap<>();
        for (Method m : TakerBook.class.getDeclaredMethods()) {
            face.put(m.getName(), m);
        }
        return face;
    }

    /** Tells what was wrong; each promise from the first to the last must have had a test. */
    static void end(int first, int last) {
        words = "each promise has a test";
        for (promise = first; promise <= last; promise++) {
            if (!TESTED.contains(promise)) {
                wrong("has none");
            }
        }
        System.out.println(sentences + " sentences of promises " + first + " to " + last + ": " + wrong
                + " answers are not as due");
        if (wrong != 0) {
            System.exit(1);
        }
    }
}
