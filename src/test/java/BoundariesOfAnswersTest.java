import java.util.Arrays;

/** The sentences of promises 36 to 45 (chances, lots, what is told) that name a boundary case. */
public final class BoundariesOfAnswersTest extends Sentences {
    /** Does by single calls what lots(n, seed) is to do: how many deeds. */
    private static int byHand(Book b, int n, long seed, int thieves) {
        long number = seed;
        int deeds = 0;
        while (deeds < n && b.answer("count(6)") == 0) {
            number = number * 48271 % 2147483647;
            long whom = number / 8 % thieves;
            String call = number % 4 == 2 ? "give(" + whom + ")" : number % 4 == 3 ? "cross(" + whom + ")" : "week()";
            if (b.answer(call) == STATE) {
                b.does("week()");
            }
            deeds++;
        }
        return deeds;
    }

    private static void dueLots(String text, int n, int seed) {
        Book b = Book.of(text);
        Book c = Book.of(text);
        b.due("lots(" + n + ", " + seed + ")", byHand(c, n, seed, (int) c.answer("count(0)")));
        b.due("digest()", c.answer("digest()"));
        b.due("asked()", 0);
    }

    /** What asked() does not tell of leaves it as it is. */
    private static void silentCalls() {
        Book b = Book.of(CALM);
        b.lay(0, 9, 2, 0);
        b.tells("lay(0, 0, 7)", 9);
        b.does("row(1, 3)", "copy(0, 0, 1, 0, 3)", "tear(1)", "text(1, 3)", "put(1, 0, 1)", "fault(1)", "fault(0)",
                "mark(2, 2)", "cross(0)", "keep(0)", "give(0)", "undo(1)", "lots(3, 1)", "on(0)", "best(2, 3)",
                "bold(1, 0)", "kinds(1, 0)", "duel(2)", "odds(3)", "mid(3)", "upper()", "lower()", "count(3)",
                "finding()", "findings(1)", "digest()", "book(0)");
        b.due("asked()", 9);
        Book c = Book.of(CALM);
        c.told("week()", 9, 0);
        c.tells("thief(0, 1)", 4);
        c.does("back(9)");
        c.due("asked()", 4);
    }

    private static long digestOf(long... numbers) {
        long h = 17;
        for (long v : numbers) {
            h = 31 * h + v;
        }
        return h;
    }

    private static void refusedChances(int of, String call) {
        sentence(of, "BAD; STATE: no THIEVES.", "", b -> {
            b.refused(BAD, call + "13)", call + "-1)", call + "MOST)", call + "LEAST)");
            b.refused(STATE, call + "0)", call + "12)");
            Book.of(CALM).refused(BAD, call + "13)", call + "-1)");
        });
    }

    private static void promise36() {
        refusedChances(36, "odds(");
        sentence(36, "if each of those who SPEAK keeps silent by p (0 .. 12) of 12, each by himself: 1.", ALL, b -> {
            b.numbers("odds(0)", 0, 1);
            b.numbers("odds(12)", 1, 1);
            b.numbers("odds(6)", 3, 16);
            b.numbers("odds(4)", 11, 243);
            b.does("give(0)", "give(2)", "give(3)", "give(4)");
            b.numbers("odds(0)", 1, 1);
            b.does("give(5)", "give(1)");
            b.numbers("odds(0)", 1, 1);
            b.numbers("odds(12)", 1, 1);
            Book.of(CALM).numbers("odds(0)", 1, 1);
            Book.of("k0001 t090 t090 t090 t090 t090 t090").numbers("odds(1)", 1, 2985984);
            Book.of("k0006 t090 t090 t090 t090 t090 t090").numbers("odds(1)", 2985984 - 1771561, 2985984);
            Book.of("k0006 t090 t090 t090 t090 t090 t090").numbers("odds(11)", 2985983, 2985984);
            tried().numbers("odds(1)", 1, 12);
        });
    }

    private static void promise37() {
        refusedChances(37, "mid(");
        sentence(37, "The mean of STOCK that comes so by that WEEK (0, if he is TRIED): 1.", ALL, b -> {
            b.numbers("mid(0)", 0, 1);
            b.numbers("mid(12)", 23, 1);
            b.numbers("mid(6)", 69, 16);
            b.does("give(0)", "give(1)", "give(2)", "give(3)", "give(4)", "give(5)");
            b.numbers("mid(6)", 0, 1);
            Book c = Book.of(CALM);
            c.does("week()");
            c.numbers("mid(0)", 9, 1);
            Book.of("k0001 g920 g920 g900 g900 g900 g900").numbers("mid(0)", 84, 1);
            Book.of("k0001 l992 l992 l992 l992 l992 l992").numbers("mid(1)", 5, 248832);
            tried().numbers("mid(2)", 5, 6);
        });
    }

    private static void promise38() {
        sentence(38, "a number comes from the one ahead by 48271 times it modulo 2147483647, the first from the seed"
            + " (1 .. 2147483646)", "", b -> {
                for (int seed : new int[] {1, 2, 7, 48271, 65536, 1073741824, 2147483645, 2147483646}) {
                    dueLots("k5326 t400 t310 c500 l100 r200 g300", 20, seed);
                }
            });
        sentence(38, "n (1 .. 20) DEEDS truly by LOTS of a seed", "", b -> {
            dueLots(CALM, 1, 1);
            dueLots(CALM, 20, 1);
            Book c = Book.of(CALM);
            c.due("lots(1, 5)", 1);
            c.due("lots(20, 5)", 20);
            c.due("count(2)", 21);
        });
        sentence(38, "it modulo 4: 0, 1 a WEEK, 2 the THIEF that it by 8, cut, modulo how many there are is given up,"
            + " 3 a CROSS for him;", CALM, b -> {
                b.due("lots(1, 1)", 1);
                b.each(3, 1, 0, 0);
                b.counts(3, 0, 1, 0, 0, 7, 0);
                b.due("lots(1, 2)", 1);
                b.counts(3, 0, 2, 5, 0, 5, 0);
                b.due("lots(1, 3)", 1);
                b.counts(3, 1, 3, 5, 6, 5, 0);
                b.due("lots(1, 4)", 1);
                b.counts(3, 2, 4, 5, 12, 5, 0);
                for (int seed = 1; seed <= 6; seed++) {
                    dueLots("k5326 t400 t310 c500 l100 r200 g300".substring(0, 5 + 5 * seed), 8, seed);
                }
            });
        sentence(38, "what can't be is a WEEK instead;", "", b -> {
            for (int seed = 1; seed <= 12; seed++) {
                dueLots("k5326 t402", 20, seed);
            }
            Book c = Book.of("k5326 t402");
            c.does("give(0)");
            c.due("lots(20, 3)", 20);
            c.counts(1, 20, 21, 7, 0, 0, 0);
        });
        sentence(38, "as soon as he is TRIED nothing more: how many DEEDS there were.", "", b -> {
            for (int seed = 1; seed <= 12; seed++) {
                dueLots("k5301 l400 l302 t120", 20, seed);
            }
            Book c = Book.of("k5301 l402");
            c.due("lots(20, 4)", 1);
            c.counts(1, 1, 1, 0, 0, 1, 1);
        });
        sentence(38, "BAD; STATE: no THIEVES, TRIED;", "", b -> {
            b.refused(BAD, "lots(0, 1)", "lots(21, 1)", "lots(-1, 1)", "lots(MOST, 1)", "lots(LEAST, 1)", "lots(1, 0)",
                    "lots(1, -1)", "lots(1, MOST)", "lots(1, LEAST)");
            b.refused(STATE, "lots(1, 1)", "lots(20, 2147483646)");
            Book c = tried();
            c.refused(BAD, "lots(21, 1)", "lots(1, 0)");
            c.refused(STATE, "lots(1, 1)");
            Book.of(CALM).refused(BAD, "lots(0, 1)", "lots(21, 1)", "lots(1, 0)", "lots(1, MOST)");
        });
        sentence(38, "FULL: with n more there would be more than 40 DEEDS. (FULL last.)", CALM, b -> {
            b.times(20, "week()");
            b.does("lots(20, 1)", "undo(21)");
            b.refused(FULL, "lots(20, 1)");
            b.due("lots(19, 1)", 19);
            b.refused(FULL, "lots(1, 1)");
            b.refused(BAD, "lots(21, 1)", "lots(1, 0)");
            Book c = Book.of(LACED);
            c.times(36, "week()");
            c.does("cross(0)", "cross(0)");
            c.refused(FULL, "lots(3, 4)");
            c.does("week()");
            c.refused(STATE, "lots(1, 1)", "lots(20, 1)");
        });
    }

    private static void promise39() {
        sentence(39, "What the latest lay(), at(), mean(), thief(), week(), speak(), safe(), silent(), heads(), ways(),"
            + " brings(), fits(), sure(), ask(), test(), sum()", ALL, b -> {
                b.lay(0, 9, 2, 1);
                b.tells("lay(0, 0, 8)", 9);
                b.tells("at(0, 1)", 2);
                b.tells("mean(0)", 3);
                b.tells("thief(0, 1)", 3);
                b.told("speak()", 61, 1);
                b.told("safe()", 4, 29);
                b.told("silent()", 4, 2);
                b.told("heads(2)", 11, 18);
                b.tells("ways(1)", 0);
                b.tells("fits(6)", 2);
                b.told("sure(6)", 0, 8);
                b.told("ask(6)", 0, 4);
                b.told("test(0, 0)", 0, 1);
                b.told("sum(6)", 1, 1);
                b.lay(1, NONE, 5);
                b.told("brings(1)", 0, 0);
                b.told("week()", 0, 1);
                silentCalls();
            });
        sentence(39, "that was not refused (nor answered NONE) told;", "k1001 t190 t190", b -> {
            b.tells("thief(0, 2)", 9);
            b.refused(NONE, "silent()", "heads(3)", "sum(99)");
            b.refused(BAD, "thief(0, 8)", "at(6, 0)", "heads(7)", "sum(100)", "ways(5)");
            b.finds(NOTHING, "at(0, 0)", "brings(0)", "mean(0)");
            b.does("row(0, 0)");
            b.finds(NOUGHT, "mean(0)", "sure(99)", "ask(99)");
            b.due("asked()", 9);
        });
        sentence(39, "0 before.", "", b -> {
            b.due("asked()", 0);
            b.write(0, ALL);
            b.does("book(0)", "row(0, 3)", "count(5)", "odds(3)");
            b.due("asked()", 0);
        });
    }

    private static void promise40() {
        sentence(40, "The upper number that was told last; 0 before.", ALL, b -> {
            b.due("upper()", 0);
            b.numbers("odds(6)", 3, 16);
            b.refused(BAD, "odds(13)", "mid(-1)", "ways(5)", "fits(100)");
            b.does("speak()", "safe()", "heads(1)", "best(1, 0)", "sure(6)", "ask(6)", "sum(6)", "duel(1)",
                    "brings(0)");
            b.due("upper()", 3);
            b.numbers("mid(6)", 69, 16);
            b.numbers("fits(6)", 7, 1);
            b.numbers("ways(1)", 0, 1);
        });
    }

    private static void promise41() {
        sentence(41, "Its lower number; 1 before.", ALL, b -> {
            b.due("lower()", 1);
            b.numbers("odds(6)", 3, 16);
            b.refused(BAD, "odds(13)", "mid(-1)", "ways(5)", "fits(100)");
            b.does("speak()", "safe()", "heads(1)", "best(1, 0)", "sure(6)", "ask(6)", "sum(6)", "duel(1)",
                    "brings(0)");
            b.due("lower()", 16);
            b.numbers("fits(6)", 7, 1);
            new Book().due("lower()", 1);
        });
    }

    private static void promise42() {
        sentence(42, "0 THIEVES, 1 WEEKS that passed (that of the trial, too), 2 DEEDS, 3 MONEY, 4 STOCK, 5 who is LEFT"
            + " (bits), 6 whether he is TRIED (1, 0)", LACED, b -> {
                b.counts(1, 0, 0, 0, 0, 1, 0);
                b.does("week()", "back(3)", "cross(0)", "cross(0)", "week()");
                b.counts(1, 2, 5, 9, 1, 1, 1);
                b.does("undo(4)", "give(0)");
                b.counts(1, 1, 5, 13, 1, 0, 0);
                Book.of(ALL).counts(6, 0, 0, 0, 0, 63, 0);
            });
        sentence(42, "7 GANG ones (YOUNG, too; not LEFT ones as well), 8 ROWS, 9 TEXTS that are there, 10 kept BOOKS.",
            "k0006 g000 y000 t000 r000", b -> {
                b.does("give(0)", "give(1)");
                b.due("count(7)", 2);
                Book.of("k0006 g000 y000 g000 y000 g000 g000").due("count(7)", 6);
                Book.of(CALM).due("count(7)", 0);
                for (int n = 0; n < 6; n++) {
                    b.due("count(8)", n);
                    b.does("row(" + n + ", 0)", "row(" + n + ", 40)");
                }
                b.due("count(8)", 6);
                b.does("tear(0)");
                b.due("count(8)", 5);
                b.due("count(9)", 1);
                b.does("text(1, 0)", "text(2, 60)", "text(3, 1)", "text(3, 0)");
                b.due("count(9)", 4);
                b.does("keep(0)", "keep(0)", "keep(1)");
                b.due("count(10)", 2);
                b.does("keep(2)");
                b.due("count(10)", 3);
                b.does("book(0)");
                b.due("count(10)", 0);
            });
        sentence(42, "BAD.", ALL, b -> {
            b.refused(BAD, "count(11)", "count(-1)", "count(MOST)", "count(LEAST)");
            new Book().refused(BAD, "count(11)", "count(-1)");
        });
    }

    private static void promise43() {
        sentence(43, "The latest FINDING (0 before any).", "", b -> {
            b.due("finding()", 0);
            b.refused(BAD, "row(6, 0)", "at(6, 0)");
            b.refused(STATE, "week()");
            b.due("finding()", 0);
            b.finds(NOTHING, "at(0, 0)");
            b.does("row(0, 0)");
            b.finds(BEYOND, "at(0, 0)");
            b.finds(NOUGHT, "mean(0)");
            b.finds(SIZE, "row(0, -1)");
            b.does("row(0, 1)");
            b.refused(BAD, "row(6, 0)", "findings(6)");
            b.due("finding()", SIZE);
        });
    }

    private static void promise44() {
        sentence(44, "How often a FINDING (1 .. 5) was answered.", CALM, b -> {
            for (int f = 1; f <= 5; f++) {
                b.due("findings(" + f + ")", 0);
            }
            for (int i = 0; i < 100; i++) {
                b.due("at(0, 0)", FINDING);
            }
            b.due("findings(1)", 100);
            b.finds(UNLIKE, "mark(0, 1)", "mark(0, 5)");
            b.finds(NOUGHT, "sure(99)");
            int[] often = {100, 0, 2, 1, 0};
            for (int f = 1; f <= 5; f++) {
                b.due("findings(" + f + ")", often[f - 1]);
            }
            b.does("book(0)");
            b.due("findings(1)", 100);
        });
        sentence(44, "BAD.", "", b ->
            b.refused(BAD, "findings(0)", "findings(6)", "findings(-1)", "findings(MOST)", "findings(LEAST)"));
    }

    private static void promise45() {
        sentence(45, "h = 17; then h = 31 h + v for each v", "", b -> {
            long[] nothing = new long[11 + 3 + 6 + 4];
            Arrays.fill(nothing, 11, nothing.length, -1);
            b.due("digest()", digestOf(nothing));
            b.does("row(0, 0)");
            nothing[8] = 1;
            nothing[14] = 0;
            b.due("digest()", digestOf(nothing));
            b.does("tear(0)", "text(3, 0)");
            nothing[8] = 0;
            nothing[14] = -1;
            nothing[9] = 1;
            nothing[23] = 0;
            b.due("digest()", digestOf(nothing));
        });
        sentence(45, "of each ROW its size (-1: missing) and places, of each TEXT likewise.", "", b -> {
            b.lay(5, LEAST, MOST, -1);
            b.does("row(0, 2)", "text(0, 2)", "put(0, 1, 128)", "text(3, 1)");
            b.due("digest()", digestOf(0, 0, 0, 0, 0, 0, 0, 0, 2, 2, 0, -1, -1, -1,
                    2, 0, 0, -1, -1, -1, -1, 3, LEAST, MOST, -1, 2, 32, -128, -1, -1, 1, 32));
            b.does("row(5, 1)");
            b.due("digest()", digestOf(0, 0, 0, 0, 0, 0, 0, 0, 2, 2, 0, -1, -1, -1,
                    2, 0, 0, -1, -1, -1, -1, 1, 0, 2, 32, -128, -1, -1, 1, 32));
        });
        sentence(45, "of each kept BOOK how many DEEDS (-1: missing)", "k3201 t590", b -> {
            b.does("keep(2)", "give(0)", "keep(0)", "text(0, 0)");
            b.due("digest()", digestOf(1, 0, 1, 3, 0, 0, 0, 0, 0, 1, 2, 0, 5, 9, 0, 5, 1, 0, 3, 1, -1, 0,
                    -1, -1, -1, -1, -1, -1, 0, -1, -1, -1));
        });
        sentence(45, "(of a call that tells by asked(): what it tells, not the 1 that it answers; asked() stays)", ALL,
            b -> {
                b.tells("thief(4, 2)", 9);
                b.does("digest()", "digest()");
                b.due("asked()", 9);
                b.does("text(0, 0)");
                b.due("digest()", digestOf(6, 0, 0, 0, 0, 63, 0, 2, 0, 1, 0,
                        0, 3, 6, 0, 3, 1, 1, 4, 1, 5, 9, 1, 6, 0, 1, 5, 2, 7, 7, 0, 3, 1, 1, 2,
                        3, 4, 8, 1, 5, 1, 1, 5, 4, 2, 9, 2, 3, 1, 1, 6, 5, 6, 3, 0, 3, 1, 1, 3,
                        -1, -1, -1, -1, -1, -1, -1, -1, -1, 0, -1, -1, -1));
            });
    }

    public static void main(String[] args) {
        promise36();
        promise37();
        promise38();
        promise39();
        promise40();
        promise41();
        promise42();
        promise43();
        promise44();
        promise45();
        end(36, 45);
    }
}
