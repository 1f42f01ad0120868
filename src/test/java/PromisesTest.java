/**
 * For each promise of the document what it answers to ordinary calls, at the edges that the document names,
 * and to wrong calls. Each function bears the number of the promise it is for.
 */
public final class PromisesTest {
    private static final int BAD = -1, FULL = -2, FINDING = -3, STATE = -4, SPENT = -6, NONE = -9;
    private static final int NOTHING = 1, BEYOND = 2, UNLIKE = 3, NOUGHT = 4, SIZE = 5;
    private static final int LEAST = Integer.MIN_VALUE, MOST = Integer.MAX_VALUE;
    /** One of each kind: bounty 4, fee 2, fear 4, a bench of 2; all but the returned one speak. */
    private static final String ALL = "k4242 t360 r591 c770 g481 l292 y630";
    /** Bounty 5, fee 3, fear 2, a bench of 6: never tried. They steal 4, 3, 2; heads bring 5, 5, 2. */
    private static final String CALM = "k5326 t400 t310 c500";
    /** Tried in the first week: one bold thief, bounty 3, fee 2, no fear, a bench of 1. */
    private static final String BOLD = "k3201 t590";

    private static int promise;
    private static int wrong;

    private static void due(String call, long got, long want) {
        if (got != want) {
            wrong++;
            System.out.println("promise " + promise + ": " + call + " answered " + got + ", due is " + want);
        }
    }

    private static void dueFinding(TakerBook x, String call, int got, int want) {
        due(call, got, FINDING);
        due(call + " finding()", x.finding(), want);
    }

    private static void write(TakerBook x, int t, String text) {
        due("text", x.text(t, text.length()), text.length());
        for (int i = 0; i < text.length(); i++) {
            due("put", x.put(t, i, text.charAt(i)), 1032);
        }
    }

    private static TakerBook bookOf(String text) {
        TakerBook x = new TakerBook();
        write(x, 0, text);
        due("fault of " + text, x.fault(0), NONE);
        x.book(0);
        return x;
    }

    private static void lay(TakerBook x, int r, int... numbers) {
        due("row", x.row(r, numbers.length), numbers.length);
        for (int i = 0; i < numbers.length; i++) {
            due("lay", x.lay(r, i, numbers[i]), 1);
        }
    }

    private static void dueRow(TakerBook x, int r, int... numbers) {
        for (int i = 0; i < numbers.length; i++) {
            due("at(" + r + ", " + i + ")", x.at(r, i), 1);
            due("asked() of at(" + r + ", " + i + ")", x.asked(), numbers[i]);
        }
        due("at behind the end", x.at(r, numbers.length), FINDING);
    }

    private static void dueThief(TakerBook x, int i, int... told) {
        for (int what = 0; what < told.length; what++) {
            due("thief(" + i + ", " + what + ")", x.thief(i, what), 1);
            due("asked() of thief(" + i + ", " + what + ")", x.asked(), told[what]);
        }
    }

    private static void dueTold(TakerBook x, String call, long got, long want, int asked) {
        due(call, got, want);
        due("asked() of " + call, x.asked(), asked);
    }

    private static void dueNumbers(TakerBook x, String call, int got, long upper, long lower) {
        due(call, got, 1);
        due("upper() of " + call, x.upper(), upper);
        due("lower() of " + call, x.lower(), lower);
    }

    private static void weeks(TakerBook x, int n) {
        for (int i = 0; i < n; i++) {
            x.week();
        }
    }

    private static TakerBook tried() {
        TakerBook x = bookOf(BOLD);
        x.week();
        return x;
    }

    private static void promise1() {
        TakerBook x = new TakerBook();
        for (int what = 0; what <= 10; what++) {
            due("count(" + what + ")", x.count(what), 0);
        }
        for (int r = 0; r < 6; r++) {
            dueFinding(x, "at(" + r + ", 0)", x.at(r, 0), NOTHING);
        }
        for (int t = 0; t < 4; t++) {
            dueFinding(x, "fault(" + t + ")", x.fault(t), NOTHING);
        }
        for (int k = 0; k < 3; k++) {
            dueFinding(x, "on(" + k + ")", x.on(k), NOTHING);
        }
        due("thief(0, 0)", x.thief(0, 0), BAD);
    }

    private static void promise2() {
        TakerBook x = new TakerBook();
        due("row(0, 40)", x.row(0, 40), 40);
        due("row(5, 2)", x.row(5, 2), 2);
        dueRow(x, 5, 0, 0);
        lay(x, 5, 7, 8, 9);
        due("row(5, 3) anew", x.row(5, 3), 3);
        dueRow(x, 5, 0, 0, 0);
        due("row(5, 0)", x.row(5, 0), 0);
        dueFinding(x, "at(5, 0)", x.at(5, 0), BEYOND);
        due("row(0, 41)", x.row(0, 41), BAD);
        due("row(0, MOST)", x.row(0, MOST), BAD);
        due("row(-1, 1)", x.row(-1, 1), BAD);
        due("row(6, 1)", x.row(6, 1), BAD);
        due("row(6, -1)", x.row(6, -1), BAD);
        dueFinding(x, "row(0, -1)", x.row(0, -1), SIZE);
        dueFinding(x, "row(0, LEAST)", x.row(0, LEAST), SIZE);
        due("count(8)", x.count(8), 2);
        due("at(0, 39) stays", x.at(0, 39), 1);
    }

    private static void promise3() {
        TakerBook x = new TakerBook();
        x.row(2, 3);
        dueTold(x, "lay(2, 0, 5)", x.lay(2, 0, 5), 1, 0);
        dueTold(x, "lay(2, 0, LEAST)", x.lay(2, 0, LEAST), 1, 5);
        dueTold(x, "lay(2, 0, MOST)", x.lay(2, 0, MOST), 1, LEAST);
        dueTold(x, "lay(2, 2, -9)", x.lay(2, 2, -9), 1, 0);
        dueRow(x, 2, MOST, 0, -9);
        due("lay(-1, 0, 0)", x.lay(-1, 0, 0), BAD);
        due("lay(6, 0, 0)", x.lay(6, 0, 0), BAD);
        dueFinding(x, "lay(3, 9, 0)", x.lay(3, 9, 0), NOTHING);
        dueFinding(x, "lay(2, 3, 0)", x.lay(2, 3, 0), BEYOND);
        dueFinding(x, "lay(2, -1, 0)", x.lay(2, -1, 0), BEYOND);
        dueFinding(x, "lay(2, LEAST, 0)", x.lay(2, LEAST, 0), BEYOND);
    }

    private static void promise4() {
        TakerBook x = new TakerBook();
        lay(x, 1, 4, -5);
        dueTold(x, "at(1, 1)", x.at(1, 1), 1, -5);
        dueTold(x, "at(1, 0)", x.at(1, 0), 1, 4);
        due("at(6, 0)", x.at(6, 0), BAD);
        due("at(-1, 0)", x.at(-1, 0), BAD);
        dueFinding(x, "at(0, -1)", x.at(0, -1), NOTHING);
        dueFinding(x, "at(1, 2)", x.at(1, 2), BEYOND);
        dueFinding(x, "at(1, -1)", x.at(1, -1), BEYOND);
        due("asked() behind what is refused", x.asked(), 4);
    }

    private static void promise5() {
        TakerBook x = new TakerBook();
        x.row(5, 2);
        x.row(0, 0);
        due("tear(5)", x.tear(5), 1);
        dueFinding(x, "at(5, 0)", x.at(5, 0), NOTHING);
        dueFinding(x, "tear(5) again", x.tear(5), NOTHING);
        due("count(8)", x.count(8), 1);
        due("tear(0) of no places", x.tear(0), 1);
        due("tear(6)", x.tear(6), BAD);
        due("tear(-1)", x.tear(-1), BAD);
    }

    private static void promise6() {
        TakerBook x = new TakerBook();
        lay(x, 0, 1, 2, 3, 4, 5);
        lay(x, 1, 6, 7, 8);
        due("copy(0, 1, 1, 0, 2)", x.copy(0, 1, 1, 0, 2), 1);
        dueRow(x, 1, 2, 3, 8);
        due("copy(0, 0, 0, 1, 4) as if taken ahead", x.copy(0, 0, 0, 1, 4), 1);
        dueRow(x, 0, 1, 1, 2, 3, 4);
        due("copy(0, 2, 0, 0, 3)", x.copy(0, 2, 0, 0, 3), 1);
        dueRow(x, 0, 2, 3, 4, 3, 4);
        due("copy of none at the ends", x.copy(0, 5, 1, 3, 0), 1);
        dueRow(x, 1, 2, 3, 8);
        x.row(2, 0);
        due("copy of none from a row of none", x.copy(2, 0, 1, 1, 0), 1);
        due("copy of none to a row of none", x.copy(1, 1, 2, 0, 0), 1);
        promise6Refused(x);
    }

    private static void promise6Refused(TakerBook x) {
        due("copy(6, ..)", x.copy(6, 0, 0, 0, -1), BAD);
        due("copy(-1, ..)", x.copy(-1, 0, 0, 0, 1), BAD);
        due("copy(0, .., 6, ..)", x.copy(0, 0, 6, 0, 1), BAD);
        due("copy(0, .., -1, ..)", x.copy(0, 0, -1, 0, 1), BAD);
        dueFinding(x, "copy of fewer than none", x.copy(4, 9, 5, 9, -1), SIZE);
        dueFinding(x, "copy of none that is there", x.copy(4, 0, 0, 0, 0), NOTHING);
        dueFinding(x, "copy to none that is there", x.copy(0, 9, 4, 0, 0), NOTHING);
        dueFinding(x, "copy from beyond", x.copy(0, 3, 1, 0, 3), BEYOND);
        dueFinding(x, "copy to beyond", x.copy(0, 0, 1, 1, 3), BEYOND);
        dueFinding(x, "copy of none from -1", x.copy(0, -1, 1, 0, 0), BEYOND);
        dueFinding(x, "copy of none from 6", x.copy(0, 6, 1, 0, 0), BEYOND);
        dueFinding(x, "copy of none to -1", x.copy(0, 0, 1, -1, 0), BEYOND);
        dueFinding(x, "copy of none to 4", x.copy(0, 0, 1, 4, 0), BEYOND);
        dueFinding(x, "copy of most", x.copy(0, 1, 1, 0, MOST), BEYOND);
        dueFinding(x, "copy to most", x.copy(0, 0, 1, MOST, 1), BEYOND);
        dueFinding(x, "copy from least", x.copy(0, LEAST, 1, 0, 1), BEYOND);
        dueRow(x, 1, 2, 3, 8);
    }

    private static void promise7() {
        TakerBook x = new TakerBook();
        lay(x, 0, 4, 3);
        dueTold(x, "mean(0)", x.mean(0), 1, 3);
        lay(x, 0, -4, -3);
        dueTold(x, "mean(0) below 0", x.mean(0), 1, -3);
        lay(x, 0, MOST, MOST, MOST);
        dueTold(x, "mean(0) of the most", x.mean(0), 1, MOST);
        lay(x, 0, LEAST, LEAST);
        dueTold(x, "mean(0) of the least", x.mean(0), 1, LEAST);
        due("mean(6)", x.mean(6), BAD);
        due("mean(-1)", x.mean(-1), BAD);
        dueFinding(x, "mean(1)", x.mean(1), NOTHING);
        x.row(1, 0);
        dueFinding(x, "mean of none", x.mean(1), NOUGHT);
        due("asked() stays", x.asked(), LEAST);
    }

    private static void promise8() {
        TakerBook x = new TakerBook();
        due("text(3, 60)", x.text(3, 60), 60);
        due("put(3, 59, 1)", x.put(3, 59, 1), 1032);
        due("text(3, 60) anew", x.text(3, 60), 60);
        due("put(3, 59, 1)", x.put(3, 59, 1), 1032);
        due("text(0, 0)", x.text(0, 0), 0);
        due("text(0, 61)", x.text(0, 61), BAD);
        due("text(4, 1)", x.text(4, 1), BAD);
        due("text(-1, 1)", x.text(-1, 1), BAD);
        due("text(4, -1)", x.text(4, -1), BAD);
        dueFinding(x, "text(1, -1)", x.text(1, -1), SIZE);
        due("count(9)", x.count(9), 2);
    }

    private static void promise9() {
        TakerBook x = new TakerBook();
        x.text(0, 2);
        due("put(0, 1, 200)", x.put(0, 1, 200), 1032);
        due("put(0, 1, -129)", x.put(0, 1, -129), 944);
        due("put(0, 1, 128)", x.put(0, 1, 128), 1127);
        due("put(0, 1, 256)", x.put(0, 1, 256), 872);
        due("put(0, 1, 0)", x.put(0, 1, 0), 1000);
        due("put(4, 0, 0)", x.put(4, 0, 0), BAD);
        due("put(-1, 0, 0)", x.put(-1, 0, 0), BAD);
        dueFinding(x, "put(1, 0, 0)", x.put(1, 0, 0), NOTHING);
        dueFinding(x, "put(0, 2, 0)", x.put(0, 2, 0), BEYOND);
        dueFinding(x, "put(0, -1, 0)", x.put(0, -1, 0), BEYOND);
        due("put(0, 0, 0) is as it was", x.put(0, 0, 0), 1032);
    }

    private static void dueFault(TakerBook x, String text, int place) {
        write(x, 1, text);
        due("fault of \"" + text + "\"", x.fault(1), place);
    }

    private static void promise10() {
        TakerBook x = new TakerBook();
        dueFault(x, "k0001t000", NONE);
        dueFault(x, "  k9996  t992 ", NONE);
        dueFault(x, "k1234t122r122c122g124", 20);
        dueFault(x, "k1234t122r122c122g122l122y122", NONE);
        dueFault(x, "k1234 t122 r122 c122 g122 l122 y122 ", NONE);
        dueFault(x, "k1234 t122 r122 c122 g122 l122 y122 x", 36);
        dueFault(x, "k1234 t122 r122 c122 g122 l122 y122 t122", 36);
        dueFault(x, "", 0);
        dueFault(x, "   ", 3);
        dueFault(x, "t122", 0);
        dueFault(x, " K1234t122", 1);
        dueFault(x, "k", 1);
        dueFault(x, "k123", 4);
        dueFault(x, "k 1234t122", 1);
        dueFault(x, "k1a34t122", 2);
        dueFault(x, "k12:4t122", 3);
        dueFault(x, "k/234t122", 1);
        dueFault(x, "k:234t122", 1);
        dueFault(x, "k1:34t122", 2);
        dueFault(x, "k1230t122", 4);
        dueFault(x, "k1237t122", 4);
        dueFault(x, "k1236", 5);
        dueFault(x, "k1236  ", 7);
        dueFault(x, "k12345", 5);
        dueFault(x, "k1234k1234", 5);
        promise10Thieves(x);
    }

    private static void promise10Thieves(TakerBook x) {
        dueFault(x, "k1234T122", 5);
        dueFault(x, "k1234s122", 5);
        dueFault(x, "k1234t", 6);
        dueFault(x, "k1234t1", 7);
        dueFault(x, "k1234t12", 8);
        dueFault(x, "k1234t 22", 6);
        dueFault(x, "k1234t1 2", 7);
        dueFault(x, "k1234t12 ", 8);
        dueFault(x, "k1234t123", 8);
        dueFault(x, "k1234tx22", 6);
        dueFault(x, "k1234t:22", 6);
        dueFault(x, "k1234t1:2", 7);
        dueFault(x, " ".repeat(60), 60);
        dueFault(x, "k1234t122" + " ".repeat(51), NONE);
        dueFault(x, " ".repeat(56) + "k123", 60);
        dueFault(x, "k1234t1x2", 7);
        dueFault(x, "k1234t12x", 8);
        dueFault(x, "k1234t1220", 9);
        dueFault(x, "k1234t122 r", 11);
        x.put(1, 0, -107);
        due("fault of a byte below 0", x.fault(1), 0);
        due("fault(4)", x.fault(4), BAD);
        due("fault(-1)", x.fault(-1), BAD);
        dueFinding(x, "fault(0)", x.fault(0), NOTHING);
    }

    private static void promise11() {
        TakerBook x = bookOf(ALL);
        due("book(0)", x.book(0), 6);
        x.cross(0);
        x.give(1);
        x.keep(0);
        x.keep(2);
        write(x, 2, CALM);
        due("book(2)", x.book(2), 3);
        int[] counts = {3, 0, 0, 0, 0, 7, 0, 0, 0, 2, 0};
        for (int what = 0; what <= 10; what++) {
            due("count(" + what + ")", x.count(what), counts[what]);
        }
        dueThief(x, 0, 0, 4, 0, 0, 4, 0, 1, 5);
        dueThief(x, 2, 2, 5, 0, 0, 2, 0, 1, 2);
        dueFinding(x, "on(0)", x.on(0), NOTHING);
        promise11Refused(x);
    }

    private static void promise11Refused(TakerBook x) {
        x.week();
        x.keep(1);
        due("book(4)", x.book(4), BAD);
        due("book(-1)", x.book(-1), BAD);
        dueFinding(x, "book(3)", x.book(3), NOTHING);
        write(x, 1, "k1234");
        due("book(1) with a fault", x.book(1), STATE);
        due("count(0) stays", x.count(0), 3);
        due("count(2) stays", x.count(2), 1);
        due("count(10) stays", x.count(10), 1);
        TakerBook y = tried();
        due("book(0) once more", y.book(0), 1);
        due("count(6)", y.count(6), 0);
        due("count(1)", y.count(1), 0);
        y.give(0);
        y.book(0);
        due("count(5)", y.count(5), 1);
        due("count(3)", y.count(3), 0);
    }

    private static void promise12() {
        TakerBook x = bookOf(ALL);
        dueThief(x, 0, 0, 3, 6, 0, 3, 1, 1, 4);
        dueThief(x, 1, 1, 5, 9, 1, 6, 0, 1, 5);
        dueThief(x, 2, 2, 7, 7, 0, 3, 1, 1, 2);
        dueThief(x, 3, 3, 4, 8, 1, 5, 1, 1, 5);
        dueThief(x, 4, 4, 2, 9, 2, 3, 1, 1, 6);
        dueThief(x, 5, 5, 6, 3, 0, 3, 1, 1, 3);
        x.give(3);
        dueThief(x, 3, 3, 4, 8, 1, 5, 1, 0, 5);
        dueThief(x, 5, 5, 6, 3, 0, 3, 1, 1, 3);
        x.give(5);
        dueThief(x, 3, 3, 4, 8, 1, 4, 1, 0, 5);
        dueThief(x, 5, 5, 6, 3, 0, 3, 1, 0, 3);
        due("thief(0, 8)", x.thief(0, 8), BAD);
        due("thief(0, -1)", x.thief(0, -1), BAD);
        due("thief(6, 0)", x.thief(6, 0), BAD);
        due("thief(-1, 0)", x.thief(-1, 0), BAD);
        promise12WhoSpeaks();
    }

    private static void promise12WhoSpeaks() {
        TakerBook x = bookOf("k0456 t050 t060 t081 t071 c060 c981");
        int[] speaks = {0, 1, 1, 0, 1, 0};
        for (int i = 0; i < 6; i++) {
            dueTold(x, "thief(" + i + ", 5)", x.thief(i, 5), 1, speaks[i]);
        }
        x = bookOf("k0456 l090 l091 l002 g990 y030 y041");
        int[] laces = {0, 0, 1, 0, 0, 0};
        for (int i = 0; i < 6; i++) {
            dueTold(x, "thief(" + i + ", 5) among many", x.thief(i, 5), 1, laces[i]);
        }
        x.give(3);
        dueTold(x, "thief(3, 5) with two others", x.thief(3, 5), 1, 0);
        dueTold(x, "thief(4, 5) by 5 against 5", x.thief(4, 5), 1, 0);
        x = bookOf("k0456 g960 y040 y051 y061 r992");
        x.give(3);
        dueTold(x, "thief(1, 5) with two others", x.thief(1, 5), 1, 0);
        x.give(0);
        dueTold(x, "thief(0, 5) with two others, not left", x.thief(0, 5), 1, 0);
        dueTold(x, "thief(1, 5) by 6 against 5", x.thief(1, 5), 1, 1);
        dueTold(x, "thief(2, 5) by 7 against 7", x.thief(2, 5), 1, 0);
        dueTold(x, "thief(4, 5) who came back", x.thief(4, 5), 1, 0);
        promise12Figures();
    }

    private static void promise12Figures() {
        TakerBook x = bookOf("k0456 y900 y501 c600 c701 r000 l902");
        dueThief(x, 0, 5, 9, 0, 0, 5, 0, 1, 0);
        dueThief(x, 1, 5, 5, 0, 1, 3, 0, 1, 0);
        dueThief(x, 2, 2, 6, 0, 0, 3, 0, 1, 0);
        dueThief(x, 3, 2, 7, 0, 1, 3, 0, 1, 0);
        dueThief(x, 4, 1, 0, 0, 0, 1, 0, 1, 0);
        dueThief(x, 5, 4, 9, 0, 2, 10, 1, 1, 2);
        x.cross(1);
        dueTold(x, "thief(1, 7) with two crosses", x.thief(1, 7), 1, 1);
        x.cross(3);
        dueTold(x, "thief(3, 7) with two crosses", x.thief(3, 7), 1, 1);
    }

    private static void promise13() {
        TakerBook x = bookOf(ALL);
        due("mark(1, 1)", x.mark(1, 1), 5);
        due("mark(4, 1) of a lace who speaks", x.mark(4, 1), 4);
        due("mark(2, 2)", x.mark(2, 2), 1);
        due("mark(3, 3)", x.mark(3, 3), 1);
        due("mark(5, 3)", x.mark(5, 3), 1);
        due("mark(4, 4)", x.mark(4, 4), 0);
        due("mark(5, 5)", x.mark(5, 5), 0);
        x.give(3);
        due("mark(5, 3) with none", x.mark(5, 3), 0);
        due("mark(3, 3) of one not left", x.mark(3, 3), 1);
        due("mark(1, 1) of those left", x.mark(1, 1), 4);
        x.week();
        due("mark(2, 2) behind the trial", x.mark(2, 2), 2);
        int[][] unlike = {{0, 1}, {0, 2}, {0, 3}, {0, 4}, {0, 5}, {1, 2}, {1, 4}, {2, 1}, {3, 5}, {3, 1}, {4, 2}, {5, 4}};
        for (int[] pair : unlike) {
            dueFinding(x, "mark(" + pair[0] + ", " + pair[1] + ")", x.mark(pair[0], pair[1]), UNLIKE);
        }
        due("mark(0, 0)", x.mark(0, 0), BAD);
        due("mark(0, 6)", x.mark(0, 6), BAD);
        due("mark(0, -1)", x.mark(0, -1), BAD);
        due("mark(6, 1)", x.mark(6, 1), BAD);
        due("mark(-1, 1)", x.mark(-1, 1), BAD);
        promise13Others();
    }

    private static void promise13Others() {
        TakerBook x = bookOf("k0196 l000 l001 y002 y080 y070 c000");
        due("mark(0, 4)", x.mark(0, 4), 2);
        due("mark(1, 4)", x.mark(1, 4), 1);
        due("mark(2, 5) crosses aside", x.mark(2, 5), 8);
        due("mark(3, 5) enough", x.mark(3, 5), 0);
        due("mark(4, 5) one lacks", x.mark(4, 5), 1);
        due("mark(3, 3)", x.mark(3, 3), 2);
        weeks(x, 3);
        due("mark(5, 2)", x.mark(5, 2), 4);
        due("asked() is not of mark()", x.asked(), 0);
    }

    private static void promise14() {
        TakerBook x = bookOf(CALM);
        dueTold(x, "week()", x.week(), 9, 0);
        dueTold(x, "week() again", x.week(), 18, 0);
        x.give(0);
        dueTold(x, "week() of two", x.week(), 23, 0);
        due("count(1)", x.count(1), 3);
        weeks(x, 36);
        due("count(2)", x.count(2), 40);
        due("week() when all deeds are done", x.week(), FULL);
        due("week() without a book", new TakerBook().week(), STATE);
        TakerBook y = bookOf("k3242 t370 t290 t190");
        due("week() tried by three of two", y.week(), 0);
        due("asked() tells it", y.asked(), 1);
        due("week() behind it", y.week(), STATE);
        due("count(1) with that of the trial", y.count(1), 1);
        due("count(2) with that of the trial", y.count(2), 1);
        y.undo(0);
        y.give(2);
        y.cross(0);
        dueTold(y, "week() by 7 against 6 and 9 against 4", y.week(), 0, 1);
        y.undo(2);
        y.cross(0);
        dueTold(y, "week() when one is silent", y.week(), 5, 0);
    }

    private static void promise14Gang() {
        TakerBook x = bookOf("k3246 g190 g290 y490");
        dueTold(x, "week() of a gang", x.week(), 3 + 4 + 3, 0);
        TakerBook y = bookOf("k3202 t150 t250 t340");
        weeks(y, 1);
        due("count(6) with all bold", y.count(6), 1);
        y = bookOf("k3291 t190 t290 t300");
        for (int n = 0; n < 39; n++) {
            y.week();
        }
        due("count(6) with 9 against 9", y.count(6), 0);
        TakerBook z = bookOf("k1111 l300");
        weeks(z, 37);
        z.cross(0);
        z.cross(0);
        due("week() as the 40th deed, tried", z.week(), 37 * 4);
        due("week() is not now rather than too much", z.week(), STATE);
    }

    private static void promise15() {
        TakerBook x = bookOf(CALM);
        x.week();
        due("back(4)", x.back(4), 12);
        due("count(4)", x.count(4), 5);
        due("back(6)", x.back(6), SPENT);
        due("back(5)", x.back(5), 27);
        due("back(1)", x.back(1), SPENT);
        due("back(0)", x.back(0), BAD);
        due("back(-1)", x.back(-1), BAD);
        due("back(100)", x.back(100), BAD);
        due("back(1) without a book", new TakerBook().back(1), STATE);
        weeks(x, 20);
        due("back(99)", x.back(99), 27 + 297);
        weeks(x, 16);
        due("count(2)", x.count(2), 40);
        due("back(1) too many deeds", x.back(1), FULL);
        TakerBook y = bookOf("k1501 l000");
        y.week();
        y.cross(0);
        y.cross(0);
        y.week();
        due("back(1) when tried", y.back(1), STATE);
        due("back(99) when tried", y.back(99), STATE);
        due("back(100) when tried", y.back(100), BAD);
        TakerBook z = bookOf(CALM);
        z.week();
        for (int i = 0; i < 39; i++) {
            z.undo(1);
            z.week();
        }
        weeks(z, 38);
        z.back(99);
        due("back(99) spent", z.back(99), FULL);
        TakerBook w = bookOf("k0001 t000");
        weeks(w, 40);
        due("back(1) spent rather than too much", w.back(1), SPENT);
    }

    private static void promise16() {
        TakerBook x = bookOf(ALL);
        due("cross(0)", x.cross(0), 1);
        due("cross(0) again", x.cross(0), 2);
        due("cross(0) a third time", x.cross(0), STATE);
        due("cross(3)", x.cross(3), 2);
        due("cross(4) of two", x.cross(4), STATE);
        x.give(1);
        due("cross(1) not left", x.cross(1), STATE);
        due("cross(6)", x.cross(6), BAD);
        due("cross(-1)", x.cross(-1), BAD);
        due("count(2)", x.count(2), 4);
        due("cross(0) without a book", new TakerBook().cross(0), BAD);
        due("cross(0) when tried", tried().cross(0), STATE);
        TakerBook y = bookOf(CALM);
        y.cross(1);
        y.cross(1);
        weeks(y, 38);
        due("cross(0) too many deeds", y.cross(0), FULL);
        due("cross(1) not now rather than too much", y.cross(1), STATE);
    }

    private static void promise17() {
        TakerBook x = bookOf(ALL);
        due("give(5)", x.give(5), 3);
        due("give(2)", x.give(2), 5);
        x.cross(0);
        due("give(0) with a cross", x.give(0), 10);
        due("count(5)", x.count(5), 2 + 8 + 16);
        due("give(0) again", x.give(0), STATE);
        due("give(6)", x.give(6), BAD);
        due("give(-1)", x.give(-1), BAD);
        due("give(0) without a book", new TakerBook().give(0), BAD);
        due("give(0) when tried", tried().give(0), STATE);
        TakerBook y = bookOf(CALM);
        y.give(1);
        weeks(y, 39);
        due("give(0) too many deeds", y.give(0), FULL);
        due("give(1) not now rather than too much", y.give(1), STATE);
    }

    private static void promise18() {
        TakerBook x = bookOf(CALM);
        x.week();
        x.back(4);
        x.cross(0);
        x.give(0);
        x.week();
        due("undo(5)", x.undo(5), 0);
        due("undo(6)", x.undo(6), BAD);
        due("undo(-1)", x.undo(-1), BAD);
        due("undo(3)", x.undo(3), 2);
        due("count(3)", x.count(3), 12);
        due("count(4)", x.count(4), 5);
        due("count(5)", x.count(5), 7);
        dueTold(x, "thief(0, 3)", x.thief(0, 3), 1, 1);
        due("undo(1)", x.undo(1), 2);
        dueTold(x, "thief(0, 3)", x.thief(0, 3), 1, 0);
        due("count(3)", x.count(3), 0);
        due("count(4)", x.count(4), 9);
        due("count(1)", x.count(1), 1);
        due("undo(0)", x.undo(0), 1);
        due("undo(0) of none", x.undo(0), 0);
        due("undo(0) without a book", new TakerBook().undo(0), 0);
        due("undo(1) without a book", new TakerBook().undo(1), BAD);
        TakerBook y = tried();
        due("undo(0) of a trial", y.undo(0), 1);
        due("count(6)", y.count(6), 0);
        due("give(0) then", y.give(0), 3);
    }

    private static void promise19() {
        TakerBook x = bookOf(CALM);
        due("keep(0)", x.keep(0), 0);
        x.week();
        x.give(2);
        due("keep(2)", x.keep(2), 2);
        due("count(10)", x.count(10), 2);
        due("keep(3)", x.keep(3), BAD);
        due("keep(-1)", x.keep(-1), BAD);
        due("keep(0) without a book", new TakerBook().keep(0), STATE);
        due("keep(3) without a book", new TakerBook().keep(3), BAD);
        due("keep(0) anew", x.keep(0), 2);
        x.undo(0);
        due("on(0)", x.on(0), 2);
        due("keep(1) when tried", tried().keep(1), 1);
    }

    private static void promise20() {
        TakerBook x = bookOf(CALM);
        x.week();
        x.cross(1);
        x.keep(1);
        x.give(1);
        x.back(3);
        x.undo(1);
        x.give(0);
        due("on(1)", x.on(1), 2);
        due("count(5)", x.count(5), 7);
        due("count(3)", x.count(3), 0);
        due("count(4)", x.count(4), 9);
        dueTold(x, "thief(1, 3)", x.thief(1, 3), 1, 1);
        due("undo(1) behind on()", x.undo(1), 1);
        dueTold(x, "thief(1, 3)", x.thief(1, 3), 1, 0);
        due("on(1) once more", x.on(1), 2);
        due("on(3)", x.on(3), BAD);
        due("on(-1)", x.on(-1), BAD);
        dueFinding(x, "on(0)", x.on(0), NOTHING);
        dueFinding(x, "on(0) without a book", new TakerBook().on(0) == FINDING ? x.on(2) : 0, NOTHING);
        TakerBook y = bookOf(BOLD);
        y.keep(0);
        y.week();
        due("on(0) ahead of the trial", y.on(0), 0);
        due("count(6)", y.count(6), 0);
    }

    private static void promise21() {
        TakerBook x = bookOf(ALL);
        dueTold(x, "speak()", x.speak(), 61, 1);
        x.give(0);
        x.give(2);
        x.give(3);
        dueTold(x, "speak() of those left", x.speak(), 48, 1);
        x.give(4);
        dueTold(x, "speak() of one", x.speak(), 32, 0);
        due("speak() without a book", new TakerBook().speak(), STATE);
        dueTold(bookOf(CALM), "speak() of none", bookOf(CALM).speak(), 0, 0);
        due("speak() when tried", tried().speak(), 1);
    }

    private static void promise22() {
        TakerBook x = bookOf(ALL);
        dueTold(x, "safe()", x.safe(), 4, 29);
        x = bookOf(CALM);
        x.week();
        dueTold(x, "safe() that is so", x.safe(), 0, 0);
        x = bookOf("k1142 t190 t180 r990");
        dueTold(x, "safe() the least number", x.safe(), 1, 1);
        x.give(0);
        dueTold(x, "safe() then", x.safe(), 0, 0);
        x = bookOf("k1141 t110 t180 r990");
        dueTold(x, "safe() of one who speaks", x.safe(), 1, 2);
        x = bookOf("k1141 g190 g180 g190");
        dueTold(x, "safe() of a gang of three", x.safe(), 0, 0);
        x.give(1);
        dueTold(x, "safe() of a gang of two", x.safe(), 2, 5);
        x = bookOf("k1111 l002 l002 l002 l002 l002 l002");
        dueTold(x, "safe() by all", x.safe(), 6, 63);
        due("safe() without a book", new TakerBook().safe(), STATE);
        x = tried();
        dueTold(x, "safe() when tried", x.safe(), 1, 1);
    }

    private static void promise23() {
        TakerBook x = bookOf(ALL);
        dueTold(x, "silent()", x.silent(), 4, 2);
        x = bookOf("k3123 g570 y481 g662 c890 t352 r470");
        dueTold(x, "silent() that is so", x.silent(), 0, 2);
        x.give(2);
        x.undo(0);
        x.give(4);
        dueTold(x, "silent() of those left", x.silent(), 0, 1);
        x = bookOf("k1111 t130 t141");
        dueTold(x, "silent() of both", x.silent(), 2, 1);
        x = bookOf("k1112 t151 t130");
        dueTold(x, "silent() by one for the one or the other", x.silent(), 1, 1);
        due("count(2) stays", x.count(2), 0);
        dueTold(x, "thief(0, 3) stays", x.thief(0, 3), 1, 1);
        x = bookOf("k1111 t190 t120 c902");
        x.give(0);
        dueTold(x, "silent() behind one not left", x.silent(), 1, 1);
        x = bookOf("k1101 t190");
        x.speak();
        dueTold(x, "silent() by none", x.silent(), NONE, 1);
        x = bookOf("k1101 l092");
        due("silent() of a lace", x.silent(), NONE);
        x = bookOf("k1191 l091 l090");
        dueTold(x, "silent() of laces", x.silent(), 0, 0);
        due("silent() without a book", new TakerBook().silent(), STATE);
        due("silent() when tried", tried().silent(), NONE);
    }

    private static void promise24() {
        TakerBook x = bookOf(ALL);
        dueTold(x, "heads(0)", x.heads(0), 0, 0);
        dueTold(x, "heads(1)", x.heads(1), 6, 16);
        dueTold(x, "heads(2) the least number", x.heads(2), 11, 18);
        dueTold(x, "heads(6)", x.heads(6), 25, 63);
        x.give(4);
        dueTold(x, "heads(1) of those left", x.heads(1), 5, 2);
        dueTold(x, "heads(6) too many", x.heads(6), NONE, 2);
        dueTold(x, "heads(5)", x.heads(5), 19, 47);
        x.cross(0);
        x.cross(0);
        dueTold(x, "heads(1) with crosses", x.heads(1), 6, 1);
        due("heads(7)", x.heads(7), BAD);
        due("heads(-1)", x.heads(-1), BAD);
        due("heads(0) without a book", new TakerBook().heads(0), STATE);
        due("heads(1) without a book", new TakerBook().heads(1), STATE);
        due("heads(7) without a book", new TakerBook().heads(7), BAD);
        x = bookOf("k0001 c001");
        dueTold(x, "heads(1) for nothing", x.heads(1), 0, 1);
        due("heads(1) when tried", tried().heads(1), 3);
    }

    private static void promise25() {
        TakerBook x = bookOf(ALL);
        x.row(2, 40);
        due("best(2, 1)", x.best(2, 1), 6);
        dueRow(x, 1, 4, NONE);
        due("best(4, 2) anew", x.best(4, 2), 6);
        dueRow(x, 2, 4, NONE, NONE, NONE);
        due("best(0, 0)", x.best(0, 0), 0);
        dueRow(x, 0);
        x = bookOf("k3123 g570 y481 g662 c890 t352 r470");
        due("best(4, 5)", x.best(4, 5), 122);
        dueRow(x, 5, NONE, NONE, NONE, 4);
        x = bookOf("k2116 t200 t200");
        x.week();
        due("best(1, 0) with the stock as it is", x.best(1, 0), 8);
        dueRow(x, 0, NONE);
        due("best(2, 0) the first of like ones", x.best(2, 0), 12);
        dueRow(x, 0, NONE, NONE);
        x = bookOf("k3116 t200 t200");
        due("best(2, 0) gives up at last", x.best(2, 0), 9);
        dueRow(x, 0, NONE, 0);
        promise25Tried();
    }

    private static void promise25Tried() {
        TakerBook x = bookOf("k0201 l300 t490");
        x.week();
        due("count(6)", x.count(6), 1);
        x.undo(0);
        x.give(1);
        x.week();
        x.cross(0);
        x.cross(0);
        due("best(1, 0) by giving the lace up", x.best(1, 0), 2 + 8);
        dueRow(x, 0, 0);
        write(x, 0, "k0001 t000");
        x.book(0);
        due("best(1, 0) of nothing", x.best(1, 0), 0);
        dueRow(x, 0, NONE);
        x = bookOf("k1201 t190 t290 r300");
        due("best(2, 0) first one, then the other", x.best(2, 0), 1);
        dueRow(x, 0, 0, NONE);
        due("best(3, 0)", x.best(3, 0), 1);
        dueRow(x, 0, 0, NONE, NONE);
        due("best(5, 0)", x.best(5, 0), BAD);
        due("best(-1, 0)", x.best(-1, 0), BAD);
        due("best(1, 6)", x.best(1, 6), BAD);
        due("best(1, -1)", x.best(1, -1), BAD);
        due("best(1, 0) without a book", new TakerBook().best(1, 0), STATE);
        due("best(1, 0) when tried", tried().best(1, 0), STATE);
        due("best(1, 6) when tried", tried().best(1, 6), BAD);
        TakerBook y = tried();
        lay(y, 3, 1, 2);
        y.best(1, 3);
        dueRow(y, 3, 1, 2);
        due("count(2)", y.count(2), 1);
    }

    private static void promise26() {
        TakerBook x = bookOf(CALM);
        dueNumbers(x, "ways(0)", x.ways(0), 1, 1);
        due("asked()", x.asked(), 0);
        dueNumbers(x, "ways(1)", x.ways(1), 4, 1);
        dueNumbers(x, "ways(2)", x.ways(2), 1 + 2 * 3 + 6, 1);
        dueNumbers(x, "ways(4)", x.ways(4), 1 + 4 * 3 + 6 * 6 + 4 * 6, 1);
        due("asked()", x.asked(), 0);
        x = bookOf("k0006 t000 t000 t000 t000 t000 t000");
        dueNumbers(x, "ways(4) of six", x.ways(4), 1 + 4 * 6 + 6 * 30 + 4 * 120 + 360, 1);
        x = bookOf("k1111 t190 t100 t100");
        dueNumbers(x, "ways(1) but by one", x.ways(1), 1, 1);
        due("asked()", x.asked(), 1);
        dueNumbers(x, "ways(3)", x.ways(3), 1 + 2 * 2 + 2, 1);
        due("asked()", x.asked(), 1);
        x = bookOf("k1111 t190 t190 t100");
        x.odds(0);
        dueNumbers(x, "ways(2) by none", x.ways(2), 0, 1);
        due("asked()", x.asked(), 0);
        dueNumbers(x, "ways(0)", x.ways(0), 1, 1);
        x.give(0);
        dueNumbers(x, "ways(2) then", x.ways(2), 2, 1);
        due("asked()", x.asked(), 2);
        due("ways(5)", x.ways(5), BAD);
        due("ways(-1)", x.ways(-1), BAD);
        due("ways(0) without a book", new TakerBook().ways(0), STATE);
        due("ways(0) when tried", tried().ways(0), STATE);
    }

    private static void promise27() {
        TakerBook x = bookOf("k5326 t400 t310 c500");
        x.week();
        lay(x, 1, NONE, 0, NONE, 1);
        dueTold(x, "brings(1)", x.brings(1), 27 + 27 + 5 + 15 + 15 + 5 + 6, NONE);
        lay(x, 1);
        dueTold(x, "brings(1) of no weeks", x.brings(1), 0, NONE);
        x = bookOf("k5301 t290 t190 r310");
        lay(x, 1, 0, 1);
        dueTold(x, "brings(1) tried in the first", x.brings(1), 5, 0);
        x.give(0);
        lay(x, 1, 1, 2, NONE);
        dueTold(x, "brings(1) never tried", x.brings(1), 5 + 12 + 5, NONE);
        x = bookOf("k5301 g290 g190 g190");
        lay(x, 1, NONE, NONE, 1, 0);
        dueTold(x, "brings(1) tried in the third", x.brings(1), 30 + 30 + 5, 2);
        promise27Refused();
    }

    private static void promise27Refused() {
        TakerBook x = bookOf(CALM);
        x.give(2);
        due("brings(6)", x.brings(6), BAD);
        due("brings(-1)", x.brings(-1), BAD);
        due("brings(0) without a book", new TakerBook().brings(0), STATE);
        due("brings(0) when tried", tried().brings(0), STATE);
        dueFinding(x, "brings(0)", x.brings(0), NOTHING);
        lay(x, 0, 9, 9, 9, 9, 9);
        dueFinding(x, "brings of five", x.brings(0), SIZE);
        int[][] unlike = {{3}, {-1}, {-8}, {-10}, {2}, {0, 0}, {0, 1, 0}, {1, NONE, 1}, {NONE, NONE, NONE, 6}, {LEAST}, {MOST}};
        for (int[] plan : unlike) {
            lay(x, 0, plan);
            dueFinding(x, "brings of " + plan[0], x.brings(0), UNLIKE);
        }
        TakerBook y = bookOf("k5301 t290 t190 r310");
        lay(y, 0, NONE, 0, 0);
        dueFinding(y, "brings of one told twice behind the trial", y.brings(0), UNLIKE);
    }

    private static void promise28() {
        TakerBook x = bookOf(ALL);
        dueNumbers(x, "fits(6)", x.fits(6), 7, 1);
        due("asked()", x.asked(), 2);
        dueNumbers(x, "fits(0)", x.fits(0), 1, 1);
        due("asked()", x.asked(), 0);
        dueNumbers(x, "fits(99)", x.fits(99), 0, 1);
        due("asked()", x.asked(), NONE);
        dueNumbers(x, "fits(23)", x.fits(23), 1, 1);
        due("asked()", x.asked(), 63);
        x.give(1);
        dueNumbers(x, "fits(6) of those left", x.fits(6), 6, 1);
        due("asked()", x.asked(), 5);
        x.give(3);
        dueNumbers(x, "fits(5) as now", x.fits(5), 0, 1);
        x = bookOf("k0006 t000 t000 t500");
        dueNumbers(x, "fits(5) with those who steal none", x.fits(5), 4, 1);
        due("asked()", x.asked(), 4);
        due("fits(100)", x.fits(100), BAD);
        due("fits(-1)", x.fits(-1), BAD);
        due("fits(0) without a book", new TakerBook().fits(0), STATE);
        due("fits(100) without a book", new TakerBook().fits(100), BAD);
    }

    private static void promise29() {
        TakerBook x = bookOf(ALL);
        dueTold(x, "sure(6)", x.sure(6), 0, 8);
        dueTold(x, "sure(11) with 1 and 3", x.sure(11), 8, 0);
        dueTold(x, "sure(23)", x.sure(23), 63, 0);
        dueTold(x, "sure(0)", x.sure(0), 0, 63);
        x.give(0);
        dueTold(x, "sure(0) of those left", x.sure(0), 0, 62);
        dueTold(x, "sure(20) of those left", x.sure(20), 62, 0);
        due("sure(100)", x.sure(100), BAD);
        due("sure(-1)", x.sure(-1), BAD);
        due("sure(0) without a book", new TakerBook().sure(0), STATE);
        dueFinding(x, "sure(1)", x.sure(1), NOUGHT);
        dueTold(x, "sure(99)", x.sure(99), FINDING, 0);
    }

    private static void promise30() {
        TakerBook x = bookOf(ALL);
        dueTold(x, "ask(6)", x.ask(6), 0, 4);
        dueTold(x, "ask(0)", x.ask(0), 0, 1);
        x = bookOf("k0006 t500 t100 t200 t300");
        dueTold(x, "ask(3) by one of two sets", x.ask(3), 1, 1);
        dueTold(x, "ask(5) by one of two sets", x.ask(5), 0, 1);
        dueTold(x, "ask(6)", x.ask(6), 0, 1);
        x.give(0);
        dueTold(x, "ask(6) of those left", x.ask(6), 1, 1);
        x.give(1);
        x.give(2);
        x.give(3);
        dueTold(x, "ask(0) of nobody", x.ask(0), NONE, 1);
        dueFinding(x, "ask(1) of nobody", x.ask(1), NOUGHT);
        due("ask(100)", x.ask(100), BAD);
        due("ask(-1)", x.ask(-1), BAD);
        due("ask(0) without a book", new TakerBook().ask(0), STATE);
        dueFinding(x, "ask(99)", bookOf(ALL).ask(99) == FINDING ? x.ask(99) : 0, NOUGHT);
    }

    private static void promise31() {
        TakerBook x = bookOf(ALL);
        lay(x, 2, 4, 0, 1, 4, 1, 0);
        due("bold(0, 2)", x.bold(0, 2), 32 + 64);
        due("bold(1, 2) who came back", x.bold(1, 2), 0);
        due("bold(2, 2)", x.bold(2, 2), 992);
        due("bold(3, 2)", x.bold(3, 2), 96);
        due("bold(4, 2)", x.bold(4, 2), 0);
        due("bold(5, 2) counts as 2 more", x.bold(5, 2), 8 + 16);
        lay(x, 2, 9, 2, 1);
        due("bold(4, 2) of a lace", x.bold(4, 2), 1023);
        due("bold(0, 2) of a thief", x.bold(0, 2), 0);
        lay(x, 2, 9, 2, 0);
        due("bold(0, 2) silent", x.bold(0, 2), 1023);
        lay(x, 2, 10, 3, 2);
        x.row(2, 0);
        due("bold(1, 2) by nothing", x.bold(1, 2), 1023);
        x = bookOf("k0006 g110 g110 y110");
        lay(x, 2, 0, 0, 0);
        due("bold(0, 2) in a gang of three", x.bold(0, 2), 1023);
        x.give(2);
        due("bold(0, 2) in a gang of two", x.bold(0, 2), 1);
        due("bold(2, 2) not left", x.bold(2, 2), 1023);
        x.give(1);
        due("bold(2, 2) not left, with one", x.bold(2, 2), 0);
        promise31Refused();
    }

    private static void promise31Refused() {
        TakerBook x = bookOf(CALM);
        refusedTriples(x, "bold", 0);
        promise = 32;
        refusedTriples(x, "kinds", 1);
        promise = 33;
        refusedTriples(x, "test", 2);
        promise = 31;
    }

    private static int byTriples(TakerBook x, int which, int i, int r) {
        return which == 0 ? x.bold(i, r) : which == 1 ? x.kinds(i, r) : x.test(i, r);
    }

    private static void refusedTriples(TakerBook x, String call, int which) {
        x.tear(3);
        x.row(3, 4);
        due(call + "(3, 3)", byTriples(x, which, 3, 3), BAD);
        due(call + "(-1, 3)", byTriples(x, which, -1, 3), BAD);
        due(call + "(0, 6)", byTriples(x, which, 0, 6), BAD);
        due(call + "(0, -1)", byTriples(x, which, 0, -1), BAD);
        dueFinding(x, call + "(0, 4)", byTriples(x, which, 0, 4), NOTHING);
        lay(x, 3, 10, 0, 0, 0);
        dueFinding(x, call + " by four", byTriples(x, which, 0, 3), SIZE);
        int[][] unlike = {{10, 0, 0}, {-1, 0, 0}, {0, 3, 0}, {0, -1, 0}, {0, 0, 2}, {0, 0, -1}, {0, 0, 0, 0, 0, 9}};
        for (int[] triple : unlike) {
            lay(x, 3, triple);
            dueFinding(x, call + " by a number that is none", byTriples(x, which, 0, 3), UNLIKE);
        }
        due(call + "(0, 3) without a book", byTriples(new TakerBook(), which, 0, 3), BAD);
        lay(x, 3, 9, 2, 0, 0, 0, 0);
        due(call + " by the most and the least", byTriples(x, which, 0, 3) >= 0 ? 1 : 0, 1);
        x.row(3, 3);
    }

    private static void promise32() {
        TakerBook x = bookOf(ALL);
        lay(x, 2, 4, 0, 1, 4, 1, 0);
        due("kinds(0, 2)", x.kinds(0, 2), 5);
        due("kinds(3, 2)", x.kinds(3, 2), 4);
        due("kinds(4, 2) by 9", x.kinds(4, 2), 4);
        lay(x, 2, 9, 2, 1);
        due("kinds(0, 2)", x.kinds(0, 2), 16);
        lay(x, 2, 4, 0, 1);
        due("kinds(0, 2) with two of a gang", x.kinds(0, 2), 5);
        due("kinds(3, 2) with one other", x.kinds(3, 2), 1 + 4 + 8 + 32);
        due("kinds(5, 2) by 3 and 2 more", x.kinds(5, 2), 32);
        lay(x, 2, 4, 0, 0);
        due("kinds(0, 2) silent", x.kinds(0, 2), 2 + 8 + 16 + 32);
        x.row(2, 0);
        due("kinds(0, 2) by nothing", x.kinds(0, 2), 63);
        lay(x, 2, 9, 0, 1);
        due("kinds(0, 2) none", x.kinds(0, 2), 0);
        x.give(3);
        lay(x, 2, 4, 0, 1);
        due("kinds(0, 2) with one of a gang", x.kinds(0, 2), 1 + 4 + 8 + 32);
    }

    private static void promise33() {
        TakerBook x = bookOf(ALL);
        lay(x, 2, 4, 0, 1, 4, 1, 0);
        dueTold(x, "test(0, 2)", x.test(0, 2), 1, 1);
        lay(x, 2, 4, 0, 1);
        dueTold(x, "test(5, 2) of one kind", x.test(5, 2), 0, 1);
        x = bookOf("k1232 t100 g290");
        x.row(2, 0);
        dueTold(x, "test(0, 2) of all kinds", x.test(0, 2), 0, 5);
        lay(x, 2, 8, 0, 1, 0, 1, 1);
        due("kinds(1, 2)", x.kinds(1, 2), 1 + 8 + 32);
        dueTold(x, "test(1, 2) by fear 5, two crosses", x.test(1, 2), 52, 2);
        x = bookOf("k1232 t190 g280");
        x.row(2, 0);
        dueTold(x, "test(1, 2)", x.test(1, 2), 1, 3);
        lay(x, 2, 7, 0, 1);
        due("kinds(1, 2)", x.kinds(1, 2), 1 + 4 + 8 + 32);
        dueTold(x, "test(1, 2) of four kinds", x.test(1, 2), 1, 3);
        lay(x, 2, 8, 0, 1);
        due("kinds(1, 2)", x.kinds(1, 2), 32);
        dueTold(x, "test(1, 2) of one", x.test(1, 2), 0, 1);
        lay(x, 2, 8, 0, 1, 8, 0, 0);
        x.thief(1, 2);
        dueTold(x, "test(1, 2) of none", x.test(1, 2), NONE, 8);
    }

    private static void promise34() {
        TakerBook x = bookOf("k3123 g570 y481 g662 c890 t352 r470");
        due("duel(0)", x.duel(0), 1);
        due("duel(1)", x.duel(1), 0);
        due("duel(2)", x.duel(2), 1);
        due("duel(3)", x.duel(3), 0);
        due("duel(4)", x.duel(4), 1);
        due("count(2) stays", x.count(2), 0);
        dueTold(x, "thief(3, 3) stays", x.thief(3, 3), 1, 0);
        x = bookOf("k1114 t140 t130 t131 t151");
        due("duel(0) of those who speak", x.duel(0), 3);
        due("duel(1) makes one silent", x.duel(1), 2);
        due("duel(2) makes one speak again", x.duel(2), 3);
        due("duel(3)", x.duel(3), 2);
        x = bookOf("k1114 t130");
        due("duel(1) of one", x.duel(1), 0);
        due("duel(2) of one", x.duel(2), 1);
        x = bookOf("k1114 t140");
        due("duel(1) marks one cross, not two", x.duel(1), 1);
        x = bookOf("k1114 t152");
        due("duel(1) of one who can have no more", x.duel(1), 0);
        due("duel(2) of one who can have no more", x.duel(2), 1);
        x = bookOf("k1191 l090 l092");
        due("duel(1) of laces", x.duel(1), 1);
        due("duel(2) the other wants many", x.duel(2), 1);
        x.give(1);
        due("duel(0) of those left", x.duel(0), 0);
        due("duel(4) of those left", x.duel(4), 0);
        due("duel(5)", x.duel(5), BAD);
        due("duel(-1)", x.duel(-1), BAD);
        due("duel(0) without a book", new TakerBook().duel(0), STATE);
        due("duel(5) without a book", new TakerBook().duel(5), BAD);
        due("duel(1) when tried", tried().duel(1), 1);
    }

    private static void promise35() {
        TakerBook x = bookOf(CALM);
        dueTold(x, "sum(0)", x.sum(0), 0, 0);
        dueTold(x, "sum(5)", x.sum(5), 1, 1);
        dueTold(x, "sum(10)", x.sum(10), 2, 2);
        dueTold(x, "sum(3)", x.sum(3), 1, 0);
        dueTold(x, "sum(7)", x.sum(7), 2, 2);
        dueTold(x, "sum(1)", x.sum(1), NONE, 2);
        dueTold(x, "sum(4)", x.sum(4), NONE, 2);
        dueTold(x, "sum(8)", x.sum(8), 2, 1);
        dueTold(x, "sum(99)", x.sum(99), 32, 3);
        x.give(1);
        dueTold(x, "sum(10) of those left", x.sum(10), 3, 2);
        x = bookOf("k3326 t000 t000");
        dueTold(x, "sum(3) of like few the most heads", x.sum(3), 1, 1);
        dueTold(x, "sum(6)", x.sum(6), 2, 2);
        x = bookOf("k3126 t000 t000 t002");
        dueTold(x, "sum(6) when fewer heads come behind more", x.sum(6), 2, 2);
        x = bookOf("k0026 t002");
        dueTold(x, "sum(2) with no fee", x.sum(2), 1, 1);
        due("sum(4) with no fee", x.sum(4), NONE);
        dueTold(x, "sum(0) with no fee", x.sum(0), 0, 0);
        x = bookOf("k0126 t000");
        dueTold(x, "sum(3) heads for nothing", x.sum(3), 3, 0);
        due("sum(100)", x.sum(100), BAD);
        due("sum(-1)", x.sum(-1), BAD);
        due("sum(0) without a book", new TakerBook().sum(0), STATE);
        due("sum(0) when tried", tried().sum(0), 0);
    }

    private static void promise36() {
        TakerBook x = bookOf(ALL);
        dueNumbers(x, "odds(0)", x.odds(0), 0, 1);
        dueNumbers(x, "odds(12)", x.odds(12), 1, 1);
        dueNumbers(x, "odds(6) of five, a bench of two", x.odds(6), 3, 16);
        dueNumbers(x, "odds(4)", x.odds(4), 11, 243);
        x.give(0);
        dueNumbers(x, "odds(6) of four", x.odds(6), 5, 16);
        x = bookOf("k3201 t590");
        dueNumbers(x, "odds(1)", x.odds(1), 1, 12);
        dueNumbers(x, "odds(8)", x.odds(8), 2, 3);
        x = bookOf(CALM);
        dueNumbers(x, "odds(0) of none", x.odds(0), 1, 1);
        x = bookOf("k0006 t090 t090 t090 t090 t090 t090");
        dueNumbers(x, "odds(1) of six by six", x.odds(1), 2985984 - 1771561, 2985984);
        due("odds(13)", x.odds(13), BAD);
        due("odds(-1)", x.odds(-1), BAD);
        due("odds(0) without a book", new TakerBook().odds(0), STATE);
        due("odds(13) without a book", new TakerBook().odds(13), BAD);
        TakerBook y = tried();
        dueNumbers(y, "odds(6) when tried", y.odds(6), 1, 2);
    }

    private static void promise37() {
        TakerBook x = bookOf(ALL);
        dueNumbers(x, "mid(6)", x.mid(6), 69, 16);
        dueNumbers(x, "mid(0)", x.mid(0), 0, 1);
        dueNumbers(x, "mid(12)", x.mid(12), 23, 1);
        x.give(0);
        dueNumbers(x, "mid(6) of those left", x.mid(6), 25, 4);
        x = bookOf(CALM);
        x.week();
        dueNumbers(x, "mid(4) of what comes", x.mid(4), 9, 1);
        x = bookOf("k0006 t000");
        dueNumbers(x, "mid(4) of nothing", x.mid(4), 0, 1);
        x = bookOf("k3201 t590");
        dueNumbers(x, "mid(2)", x.mid(2), 5, 6);
        due("mid(13)", x.mid(13), BAD);
        due("mid(-1)", x.mid(-1), BAD);
        due("mid(0) without a book", new TakerBook().mid(0), STATE);
        due("asked() is not of mid()", x.asked(), 0);
    }

    private static void promise38() {
        TakerBook x = bookOf(CALM);
        due("lots(10, 1)", x.lots(10, 1), 10);
        int[] counts = {3, 5, 10, 8, 15, 2, 0};
        for (int what = 0; what <= 6; what++) {
            due("count(" + what + ")", x.count(what), counts[what]);
        }
        dueTold(x, "thief(0, 3)", x.thief(0, 3), 1, 1);
        dueTold(x, "thief(1, 3)", x.thief(1, 3), 1, 2);
        due("undo(1)", x.undo(1), 9);
        due("count(5)", x.count(5), 7);
        due("lots(20, 2147483646)", x.lots(20, 2147483646), 20);
        due("lots(20, 7) too many", x.lots(20, 7), FULL);
        due("lots(19, 7)", x.lots(19, 7), 19);
        due("lots(1, 7) too many", x.lots(1, 7), FULL);
        TakerBook y = bookOf(BOLD);
        y.at(0, 0);
        due("lots(5, 4) tried in a week", y.lots(5, 4), 1);
        due("count(6)", y.count(6), 1);
        due("asked() is not of lots()", y.asked(), 0);
        due("lots(1, 1) when tried", y.lots(1, 1), STATE);
        due("lots(0, 1)", y.lots(0, 1), BAD);
        due("lots(21, 1)", y.lots(21, 1), BAD);
        due("lots(1, 0)", y.lots(1, 0), BAD);
        due("lots(1, -1)", y.lots(1, -1), BAD);
        due("lots(1, MOST)", y.lots(1, MOST), BAD);
        due("lots(1, 1) without a book", new TakerBook().lots(1, 1), STATE);
    }

    private static void promise39() {
        TakerBook x = new TakerBook();
        due("asked() before", x.asked(), 0);
        write(x, 0, ALL);
        x.book(0);
        lay(x, 1, 5, 6);
        x.at(1, 1);
        due("asked() of at()", x.asked(), 6);
        x.fault(0);
        x.book(0);
        x.keep(0);
        x.on(0);
        x.cross(0);
        x.give(0);
        x.undo(0);
        x.mark(1, 1);
        x.best(2, 2);
        x.row(3, 0);
        x.bold(0, 3);
        x.kinds(0, 3);
        x.duel(2);
        x.odds(3);
        x.mid(3);
        x.count(5);
        x.digest();
        x.copy(1, 0, 1, 1, 1);
        x.tear(1);
        due("asked() of what tells nothing by it", x.asked(), 6);
        x.thief(7, 0);
        x.heads(7);
        x.fits(-1);
        x.sure(99);
        x.brings(5);
        due("asked() of what is refused", x.asked(), 6);
        dueTold(x, "thief(3, 1)", x.thief(3, 1), 1, 4);
    }

    private static void promise40and41() {
        TakerBook x = new TakerBook();
        due("upper() before", x.upper(), 0);
        due("lower() before", x.lower(), 1);
        x = bookOf(ALL);
        dueNumbers(x, "odds(6)", x.odds(6), 3, 16);
        x.speak();
        x.odds(13);
        x.ways(5);
        x.sure(6);
        x.ask(6);
        x.brings(5);
        due("upper() stays", x.upper(), 3);
        due("lower() stays", x.lower(), 16);
        dueNumbers(x, "fits(6)", x.fits(6), 7, 1);
        dueNumbers(x, "mid(6)", x.mid(6), 69, 16);
        dueNumbers(x, "ways(1)", x.ways(1), 0, 1);
    }

    private static void promise42() {
        TakerBook x = bookOf(ALL);
        x.row(0, 0);
        x.row(5, 40);
        x.text(3, 0);
        x.give(3);
        x.give(0);
        x.give(2);
        x.give(4);
        x.week();
        x.back(3);
        x.keep(1);
        int[] counts = {6, 1, 6, 4 + 2 + 5 + 6 + 6, 6, 34, 0, 2, 2, 2, 1};
        for (int what = 0; what <= 10; what++) {
            due("count(" + what + ")", x.count(what), counts[what]);
        }
        due("count(11)", x.count(11), BAD);
        due("count(-1)", x.count(-1), BAD);
        TakerBook y = tried();
        due("count(1) of a trial", y.count(1), 1);
        due("count(6) of a trial", y.count(6), 1);
    }

    private static void promise43and44() {
        TakerBook x = new TakerBook();
        due("finding() before", x.finding(), 0);
        for (int f = 1; f <= 5; f++) {
            due("findings(" + f + ") before", x.findings(f), 0);
        }
        x.tear(0);
        x.row(0, 0);
        x.at(0, 0);
        x.at(0, 1);
        x.mean(0);
        x.row(0, -1);
        x.row(0, -2);
        x.row(0, -3);
        due("finding()", x.finding(), SIZE);
        x.row(9, 0);
        x.week();
        due("finding() of what is no finding", x.finding(), SIZE);
        int[] often = {1, 2, 0, 1, 3};
        for (int f = 1; f <= 5; f++) {
            due("findings(" + f + ")", x.findings(f), often[f - 1]);
        }
        due("findings(0)", x.findings(0), BAD);
        due("findings(6)", x.findings(6), BAD);
        due("findings(-1)", x.findings(-1), BAD);
        write(x, 0, ALL);
        x.book(0);
        x.mark(0, 1);
        due("findings(3)", x.findings(UNLIKE), 1);
        due("finding()", x.finding(), UNLIKE);
    }

    private static long digestOf(long... numbers) {
        long h = 17;
        for (long v : numbers) {
            h = 31 * h + v;
        }
        return h;
    }

    private static void promise45() {
        TakerBook x = new TakerBook();
        due("digest() of nothing", x.digest(), digestOf(0, 0, 0, 0, 0, 0, 0, 0, 0, 0, 0,
                -1, -1, -1, -1, -1, -1, -1, -1, -1, -1, -1, -1, -1));
        x = bookOf("k3201 t590");
        x.keep(1);
        x.text(0, 0);
        x.text(2, 2);
        x.put(2, 1, -5);
        lay(x, 4, 7, -8);
        x.give(0);
        x.keep(2);
        x.at(4, 0);
        due("digest()", x.digest(), digestOf(1, 0, 1, 3, 0, 0, 0, 0, 1, 2, 2,
                0, 5, 9, 0, 5, 1, 0, 3, -1, 0, 1, -1, -1, -1, -1, 2, 7, -8, -1, 0, -1, 2, 32, -5, -1));
        due("asked() stays", x.asked(), 7);
        promise45Refused();
    }

    /** What is refused changes nothing but finding() and findings(). */
    private static void promise45Refused() {
        TakerBook x = bookOf(ALL);
        x.week();
        x.odds(6);
        lay(x, 0, 3, 1, 4, 1, 5);
        x.at(0, 2);
        long digest = x.digest();
        int[] wild = {LEAST, -10, -9, -1, 6, 41, 61, 100, MOST};
        for (int a : wild) {
            x.row(a, 0);
            x.lay(a, 0, 0);
            x.text(a, 0);
            x.put(a, 0, 0);
            x.fault(a);
            x.book(a);
            x.thief(a, 0);
            x.mark(a, 1);
            x.cross(a);
            x.give(a);
            x.undo(a);
            x.keep(a);
            x.on(a);
            x.best(0, a);
            x.brings(a);
            x.odds(a == 6 ? 13 : a);
            x.lots(a == 6 ? 21 : a, 1);
            x.week();
            due("digest() stays by " + a, x.digest(), digest);
            due("asked() stays by " + a, x.asked(), 4);
            due("upper() stays by " + a, x.upper(), 3);
        }
    }

    private static void constants() {
        due("BAD", TakerBook.BAD, BAD);
        due("FULL", TakerBook.FULL, FULL);
        due("FINDING", TakerBook.FINDING, FINDING);
        due("STATE", TakerBook.STATE, STATE);
        due("SPENT", TakerBook.SPENT, SPENT);
        due("NONE", TakerBook.NONE, NONE);
    }

    private static void run(int which) {
        promise = which;
        switch (which) {
            case 0: constants(); break;
            case 1: promise1(); break;
            case 2: promise2(); break;
            case 3: promise3(); break;
            case 4: promise4(); break;
            case 5: promise5(); break;
            case 6: promise6(); break;
            case 7: promise7(); break;
            case 8: promise8(); break;
            case 9: promise9(); break;
            case 10: promise10(); break;
            case 11: promise11(); break;
            case 12: promise12(); break;
            case 13: promise13(); break;
            case 14: promise14(); promise14Gang(); break;
            case 15: promise15(); break;
            case 16: promise16(); break;
            case 17: promise17(); break;
            case 18: promise18(); break;
            case 19: promise19(); break;
            case 20: promise20(); break;
            case 21: promise21(); break;
            case 22: promise22(); break;
            case 23: promise23(); break;
            case 24: promise24(); break;
            case 25: promise25(); break;
            case 26: promise26(); break;
            case 27: promise27(); break;
            case 28: promise28(); break;
            case 29: promise29(); break;
            case 30: promise30(); break;
            case 31: promise31(); promise31Refused(); break;
            case 32: promise32(); break;
            case 33: promise33(); break;
            case 34: promise34(); break;
            case 35: promise35(); break;
            case 36: promise36(); break;
            case 37: promise37(); break;
            case 38: promise38(); break;
            case 39: promise39(); break;
            case 40: promise40and41(); break;
            case 42: promise42(); break;
            case 43: promise43and44(); break;
            case 45: promise45(); break;
            default: break;
        }
    }

    public static void main(String[] args) {
        for (int which = 0; which <= 45; which++) {
            run(which);
        }
        System.out.println(wrong == 0 ? "promises 1 to 45: all answers are as due" : wrong + " answers are not as due");
        if (wrong != 0) {
            System.exit(1);
        }
    }
}
