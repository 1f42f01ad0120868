/** The sentences of promises 1 to 13 (rows, texts, books) that name a boundary case. */
public final class BoundariesOfRowsTest extends Sentences {
    private static void promise1() {
        sentence(1, "No ROWS, TEXTS, THIEVES.", "", b -> {
            b.counts(0, 0, 0, 0, 0, 0, 0, 0, 0, 0, 0);
            b.finds(NOTHING, "at(0, 0)", "at(5, 0)", "fault(0)", "fault(3)", "on(0)", "on(2)");
            b.refused(BAD, "thief(0, 0)");
        });
    }

    private static void promise2() {
        sentence(2, "A ROW is there with n ints 0: n.", "", b -> {
            b.due("row(0, 0)", 0);
            b.finds(BEYOND, "at(0, 0)");
            b.due("row(0, 1)", 1);
            b.holds(0, 0);
            b.lay(0, 7, 8, 9);
            b.due("row(0, 2)", 2);
            b.holds(0, 0, 0);
            b.due("row(0, 40)", 40);
            b.tells("at(0, 2)", 0);
            b.tells("at(0, 39)", 0);
            b.finds(BEYOND, "at(0, 40)");
        });
        sentence(2, "BAD: also n above 40;", "", b -> {
            b.refused(BAD, "row(0, 41)", "row(5, MOST)", "row(6, 1)", "row(-1, 1)", "row(MOST, 1)", "row(LEAST, 1)");
            b.lay(0, 4, 5);
            b.refused(BAD, "row(0, 41)");
            b.holds(0, 4, 5);
            b.due("row(0, 40)", 40);
        });
        sentence(2, "SIZE: below 0.", "", b -> {
            b.lay(0, 4, 5);
            b.finds(SIZE, "row(0, -1)", "row(1, -1)", "row(5, LEAST)");
            b.holds(0, 4, 5);
            b.due("row(0, 0)", 0);
        });
    }

    private static void promise3() {
        sentence(3, "Place i of a ROW is v: what it was, told by asked(): 1.", "", b -> {
            b.does("row(5, 40)", "row(0, 1)");
            b.tells("lay(5, 0, MOST)", 0);
            b.tells("lay(5, 0, LEAST)", MOST);
            b.tells("lay(5, 0, -1)", LEAST);
            b.tells("lay(5, 39, 7)", 0);
            b.tells("lay(5, 39, 7)", 7);
            b.tells("lay(0, 0, 0)", 0);
            b.tells("at(5, 0)", -1);
        });
        sentence(3, "BAD; NOTHING; BEYOND.", "", b -> {
            b.lay(0, 4, 5);
            b.does("row(1, 0)");
            b.refused(BAD, "lay(6, 0, 1)", "lay(-1, 9, 1)", "lay(MOST, 0, 1)", "lay(LEAST, 0, 1)");
            b.finds(NOTHING, "lay(2, 0, 1)", "lay(2, -1, 1)", "lay(5, 40, 1)");
            b.finds(BEYOND, "lay(0, 2, 1)", "lay(0, -1, 1)", "lay(1, 0, 1)", "lay(0, MOST, 1)", "lay(0, LEAST, 1)");
            b.holds(0, 4, 5);
        });
    }

    private static void promise4() {
        sentence(4, "Place i of a ROW, told by asked(): 1.", "", b -> {
            b.does("row(0, 40)", "lay(0, 0, LEAST)", "lay(0, 39, MOST)");
            b.tells("at(0, 0)", LEAST);
            b.tells("at(0, 39)", MOST);
            b.tells("at(0, 20)", 0);
            b.lay(1, -9);
            b.tells("at(1, 0)", -9);
        });
        sentence(4, "BAD; NOTHING; BEYOND.", "", b -> {
            b.lay(0, 4, 5);
            b.does("row(1, 0)");
            b.refused(BAD, "at(6, 0)", "at(-1, -1)", "at(MOST, 0)", "at(LEAST, 0)");
            b.finds(NOTHING, "at(2, 0)", "at(2, -1)", "at(5, 40)");
            b.finds(BEYOND, "at(0, 2)", "at(0, -1)", "at(1, 0)", "at(0, MOST)", "at(0, LEAST)");
        });
    }

    private static void promise5() {
        sentence(5, "A ROW is missing: 1.", "", b -> {
            b.does("row(0, 0)", "row(5, 40)", "lay(5, 0, 7)");
            b.due("tear(5)", 1);
            b.due("tear(0)", 1);
            b.due("count(8)", 0);
            b.finds(NOTHING, "at(0, 0)", "at(5, 0)");
            b.due("row(5, 1)", 1);
            b.holds(5, 0);
        });
        sentence(5, "BAD; NOTHING.", "", b -> {
            b.does("row(0, 0)", "tear(0)");
            b.refused(BAD, "tear(6)", "tear(-1)", "tear(MOST)", "tear(LEAST)");
            b.finds(NOTHING, "tear(0)", "tear(5)");
        });
    }

    private static void promise6() {
        sentence(6, "n places of a ROW, from one on, come to those of another one (perhaps itself) from one on", "",
            b -> {
                b.lay(0, 1, 2, 3);
                b.lay(1, 7, 8, 9);
                b.due("copy(0, 2, 1, 0, 1)", 1);
                b.holds(1, 3, 8, 9);
                b.due("copy(0, 0, 1, 0, 3)", 1);
                b.holds(1, 1, 2, 3);
                b.due("copy(0, 1, 0, 1, 2)", 1);
                b.due("copy(0, 2, 0, 0, 1)", 1);
                b.holds(0, 3, 2, 3);
                b.does("row(2, 40)", "row(3, 40)", "lay(2, 39, 6)");
                b.due("copy(2, 0, 3, 0, 40)", 1);
                b.tells("at(3, 39)", 6);
            });
        sentence(6, "as if taken ahead: 1.", "", b -> {
            b.lay(0, 1, 2, 3, 4, 5);
            b.due("copy(0, 0, 0, 1, 4)", 1);
            b.holds(0, 1, 1, 2, 3, 4);
            b.lay(0, 1, 2, 3, 4, 5);
            b.due("copy(0, 1, 0, 0, 4)", 1);
            b.holds(0, 2, 3, 4, 5, 5);
            b.due("copy(0, 0, 0, 0, 5)", 1);
            b.holds(0, 2, 3, 4, 5, 5);
        });
        sentence(6, "SIZE: n below 0;", "", b -> {
            b.lay(0, 1, 2);
            b.finds(SIZE, "copy(0, 0, 0, 1, -1)", "copy(0, 1, 0, 0, LEAST)", "copy(0, 2, 0, 2, -1)");
            b.due("copy(0, 0, 0, 1, 0)", 1);
            b.holds(0, 1, 2);
        });
        sentence(6, "NOTHING: either;", "", b -> {
            b.lay(0, 1, 2);
            b.finds(NOTHING, "copy(0, 0, 1, 0, 1)", "copy(1, 0, 0, 0, 1)", "copy(1, 0, 2, 0, 1)",
                    "copy(1, 0, 1, 0, 0)");
        });
        sentence(6, "BEYOND: not so many there", "", b -> {
            b.lay(0, 1, 2, 3);
            b.lay(1, 7, 8);
            b.finds(BEYOND, "copy(0, 0, 1, 0, 3)", "copy(1, 0, 0, 0, 3)", "copy(0, 2, 1, 0, 2)", "copy(1, 0, 0, 2, 2)",
                    "copy(0, 3, 1, 0, 1)", "copy(0, 0, 1, 2, 1)", "copy(0, -1, 1, 0, 2)", "copy(0, 0, 1, -1, 2)",
                    "copy(0, 1, 1, 0, MOST)", "copy(0, 0, 0, 1, MOST)", "copy(0, MOST, 1, 0, 1)",
                    "copy(0, 0, 1, MOST, 1)", "copy(0, LEAST, 1, 0, 1)", "copy(0, MOST, 0, MOST, MOST)",
                    "copy(0, 1, 0, 1, MOST)", "copy(0, 3, 1, 2, MOST)");
            b.due("copy(0, 1, 1, 0, 2)", 1);
            b.holds(1, 2, 3);
        });
        sentence(6, "(also with n 0, if i, j is below 0, or above its size)", "", b -> {
            b.lay(0, 1, 2, 3);
            b.does("row(1, 0)");
            b.finds(BEYOND, "copy(0, -1, 1, 0, 0)", "copy(0, 4, 1, 0, 0)", "copy(0, 0, 1, -1, 0)",
                    "copy(0, 0, 1, 1, 0)", "copy(0, MOST, 1, 0, 0)", "copy(0, 0, 1, LEAST, 0)");
            b.due("copy(0, 3, 1, 0, 0)", 1);
            b.due("copy(1, 0, 0, 3, 0)", 1);
            b.due("copy(1, 0, 1, 0, 0)", 1);
            b.holds(0, 1, 2, 3);
        });
        sentence(6, "(In this order.)", "", b -> {
            b.lay(0, 1);
            b.refused(BAD, "copy(6, 0, 0, 0, -1)", "copy(0, 0, 6, 0, -1)", "copy(-1, 9, 1, 9, 1)",
                    "copy(1, 9, -1, 9, 1)");
            b.finds(SIZE, "copy(1, 9, 0, 9, -1)", "copy(0, 9, 1, 9, -1)");
            b.finds(NOTHING, "copy(1, 9, 0, 9, 1)", "copy(0, 9, 1, 9, 1)", "copy(0, -1, 1, 0, 0)");
        });
    }

    private static void promise7() {
        sentence(7, "The mean of a ROW's ints, cut, told by asked(): 1.", "", b -> {
            b.lay(0, 1, 2);
            b.tells("mean(0)", 1);
            b.lay(0, -1, -2);
            b.tells("mean(0)", -1);
            b.lay(0, 1, 0, 0);
            b.tells("mean(0)", 0);
            b.lay(0, -1, 0, 0);
            b.tells("mean(0)", 0);
            b.lay(0, -9);
            b.tells("mean(0)", -9);
            b.lay(0, MOST, MOST, MOST);
            b.tells("mean(0)", MOST);
            b.lay(0, LEAST, LEAST, LEAST);
            b.tells("mean(0)", LEAST);
            b.lay(0, LEAST, MOST);
            b.tells("mean(0)", 0);
        });
        sentence(7, "BAD; NOTHING; NOUGHT.", "", b -> {
            b.does("row(0, 0)");
            b.refused(BAD, "mean(6)", "mean(-1)", "mean(MOST)", "mean(LEAST)");
            b.finds(NOTHING, "mean(1)", "mean(5)");
            b.finds(NOUGHT, "mean(0)");
            b.does("row(0, 40)");
            b.tells("mean(0)", 0);
        });
    }

    private static void promise8() {
        sentence(8, "A TEXT is there with n blanks: n.", "", b -> {
            b.due("text(0, 0)", 0);
            b.due("text(3, 60)", 60);
            b.due("put(3, 0, 1)", 1032);
            b.due("put(3, 59, 2)", 1032);
            b.due("text(3, 60)", 60);
            b.due("put(3, 0, 1)", 1032);
            b.due("put(3, 59, 2)", 1032);
            b.due("text(3, 1)", 1);
            b.due("fault(3)", 1);
            b.finds(BEYOND, "put(3, 1, 0)");
        });
        sentence(8, "BAD: also n above 60;", "", b -> {
            b.refused(BAD, "text(0, 61)", "text(0, MOST)", "text(4, 1)", "text(-1, 1)", "text(MOST, 1)",
                    "text(LEAST, 1)");
            b.due("text(0, 60)", 60);
        });
        sentence(8, "SIZE: below 0.", "", b -> {
            b.write(0, "k1");
            b.finds(SIZE, "text(0, -1)", "text(1, -1)", "text(3, LEAST)");
            b.due("put(0, 0, 0)", 1107);
            b.due("text(0, 0)", 0);
        });
    }

    private static void promise9() {
        sentence(9, "Byte i of a TEXT is v, cut to a byte (-128 .. 127): what it was, and 1000 more.", "", b -> {
            b.does("text(0, 60)");
            int[][] cut = {{0, 0}, {127, 127}, {128, -128}, {-128, -128}, {-129, 127}, {255, -1}, {256, 0}, {-1, -1},
                {363, 107}, {MOST, -1}, {LEAST, 0}};
            int was = 32;
            for (int[] c : cut) {
                b.due("put(0, 59, " + c[0] + ")", was + 1000);
                was = c[1];
            }
            b.due("put(0, 59, 32)", 1000);
            b.due("put(0, 0, 32)", 1032);
        });
        sentence(9, "BAD; NOTHING; BEYOND.", "", b -> {
            b.does("text(0, 2)", "text(1, 0)");
            b.refused(BAD, "put(4, 0, 0)", "put(-1, 9, 0)", "put(MOST, 0, 0)", "put(LEAST, 0, 0)");
            b.finds(NOTHING, "put(2, 0, 0)", "put(3, -1, 0)", "put(3, 60, 0)");
            b.finds(BEYOND, "put(0, 2, 0)", "put(0, -1, 0)", "put(1, 0, 0)", "put(0, MOST, 0)", "put(0, LEAST, 0)");
        });
    }

    private static void promise10() {
        sentence(10, "A FAULT of a TEXT; NONE: there is none.", CALM, b -> {
            b.refused(NONE, "fault(0)");
            b.does("put(0, 4, 55)");
            b.due("fault(0)", 4);
            b.does("put(0, 4, 54)", "put(0, 19, 51)");
            b.due("fault(0)", 19);
            b.does("put(0, 19, 50)", "put(0, 0, -107)");
            b.due("fault(0)", 0);
        });
        sentence(10, "BAD; NOTHING.", "", b -> {
            b.refused(BAD, "fault(4)", "fault(-1)", "fault(MOST)", "fault(LEAST)");
            b.finds(NOTHING, "fault(0)", "fault(3)");
            b.does("text(3, 0)");
            b.due("fault(3)", 0);
        });
    }

    private static void promise11() {
        sentence(11, "A BOOK by a TEXT", CALM, b -> {
            b.does("week()", "keep(0)", "give(1)", "text(0, 60)");
            b.each(1, 4, 3, 5);
            b.due("undo(0)", 2);
            b.each(6, 1, 1, 1);
            b.due("on(0)", 1);
            b.due("count(4)", 9);
        });
        sentence(11, "(anew: WEEK 0, all LEFT, MONEY, STOCK 0, no DEEDS; kept BOOKS go): how many THIEVES.", ALL, b -> {
            b.does("keep(0)", "cross(0)", "give(4)", "keep(1)", "week()", "keep(2)");
            b.due("count(6)", 1);
            b.counts(6, 1, 3, 6, 0, 47, 1, 2, 0, 1, 3);
            b.due("book(0)", 6);
            b.counts(6, 0, 0, 0, 0, 63, 0, 2, 0, 1, 0);
            b.tells("thief(0, 3)", 0);
            b.finds(NOTHING, "on(0)", "on(1)", "on(2)");
            b.write(3, BOLD);
            b.due("book(3)", 1);
            b.counts(1, 0, 0, 0, 0, 1, 0, 0, 0, 2, 0);
            b.refused(BAD, "thief(1, 0)", "give(1)");
            b.due("book(0)", 6);
        });
        sentence(11, "STATE: a FAULT.", CALM, b -> {
            b.does("week()", "keep(1)", "text(1, 0)", "text(2, 9)");
            b.refused(STATE, "book(1)", "book(2)");
            b.counts(3, 1, 1, 0, 9, 7, 0, 0, 0, 3, 1);
            b.due("on(1)", 1);
        });
        sentence(11, "BAD; NOTHING; STATE: a FAULT. (STATE behind NOTHING.)", "", b -> {
            b.refused(BAD, "book(4)", "book(-1)", "book(MOST)", "book(LEAST)");
            b.finds(NOTHING, "book(0)", "book(3)");
            b.does("text(3, 0)");
            b.refused(STATE, "book(3)");
        });
    }

    private static void promise12() {
        sentence(12, "4 what he STEALS now, 5 whether he SPEAKS now, 6 whether he is LEFT (1, 0), 7 what his HEAD"
            + " brings", ALL, b -> {
                int[][] told = {{0, 3, 6, 0, 3, 1, 1, 4}, {1, 5, 9, 1, 6, 0, 1, 5}, {2, 7, 7, 0, 3, 1, 1, 2},
                    {3, 4, 8, 1, 5, 1, 1, 5}, {4, 2, 9, 2, 3, 1, 1, 6}, {5, 6, 3, 0, 3, 1, 1, 3}};
                for (int i = 0; i < 6; i++) {
                    for (int what = 0; what < 8; what++) {
                        b.tells("thief(" + i + ", " + what + ")", told[i][what]);
                    }
                }
            });
        sentence(12, "BAD.", CALM, b -> {
            b.refused(BAD, "thief(3, 0)", "thief(-1, 0)", "thief(0, 8)", "thief(0, -1)", "thief(MOST, 0)",
                    "thief(LEAST, 7)", "thief(0, MOST)", "thief(2, LEAST)");
            b.does("thief(2, 7)", "thief(0, 0)");
            new Book().refused(BAD, "thief(0, 0)");
        });
        sentence(12, "(One not LEFT as if he was, all others as they are.)", "k1006 g110 g210 g310", b -> {
            b.does("cross(0)", "give(0)", "give(1)");
            b.each(4, 2, 3, 3);
            b.each(5, 0, 1, 1);
            b.each(6, 0, 0, 1);
            b.each(7, 2, 1, 1);
            b.does("give(2)");
            b.each(4, 1, 2, 3);
            b.each(6, 0, 0, 0);
            Book c = Book.of("k0006 g110 g110 g110 y100");
            c.does("give(0)");
            c.each(5, 0, 0, 0, 0);
            c.does("give(1)");
            c.each(5, 0, 0, 1, 1);
            c.does("give(2)");
            c.each(5, 1, 1, 1, 1);
        });
    }

    private static void promise13() {
        sentence(13, "a RETURNED one (LACE, too) how many others SPEAK now (of those LEFT)", ALL, b -> {
            b.due("mark(1, 1)", 5);
            b.due("mark(4, 1)", 4);
            b.does("give(0)", "give(4)");
            b.due("mark(1, 1)", 3);
            b.due("mark(4, 1)", 3);
            b.does("give(1)", "give(2)", "give(3)", "give(5)");
            b.due("mark(1, 1)", 0);
            Book.of("k0006 r990").due("mark(0, 1)", 0);
        });
        sentence(13, "a CLERK how many WEEKS passed, and 1", CALM, b -> {
            b.due("mark(2, 2)", 1);
            b.times(40, "week()");
            b.due("mark(2, 2)", 41);
            b.does("undo(1)");
            b.due("mark(2, 2)", 2);
            Book c = Book.of("k0001 c910");
            c.does("week()");
            c.due("mark(0, 2)", 2);
        });
        sentence(13, "a GANG one (YOUNG, too) how many other GANG ones (YOUNG, too) are LEFT",
            "k0006 g000 g000 g000 y000 y000 y000", b -> {
                b.due("mark(0, 3)", 5);
                b.due("mark(5, 3)", 5);
                b.does("give(0)", "give(5)");
                b.due("mark(0, 3)", 4);
                b.due("mark(1, 3)", 3);
                b.due("mark(4, 3)", 3);
                b.does("give(1)", "give(2)", "give(3)");
                b.due("mark(4, 3)", 0);
                b.due("mark(3, 3)", 1);
            });
        sentence(13, "a LACE how many CROSSES he lacks to 2", "k0006 l000 l001 l002", b -> {
            b.due("mark(0, 4)", 2);
            b.due("mark(1, 4)", 1);
            b.due("mark(2, 4)", 0);
            b.does("cross(1)");
            b.due("mark(1, 4)", 0);
        });
        sentence(13, "a YOUNG one how much more BOLDNESS would let him SPEAK, CROSSES and all else aside but FEAR"
            + " (0: it is enough).", "k0096 y000 y070 y080 y090 y002 g000", b -> {
                b.due("mark(0, 5)", 8);
                b.due("mark(1, 5)", 1);
                b.due("mark(2, 5)", 0);
                b.due("mark(3, 5)", 0);
                b.due("mark(4, 5)", 8);
                b.does("give(0)");
                b.due("mark(0, 5)", 8);
                Book.of("k0006 y000").due("mark(0, 5)", 0);
                Book.of("k0016 y000").due("mark(0, 5)", 0);
                Book.of("k0026 y000").due("mark(0, 5)", 1);
                Book.of("k0026 y092").due("mark(0, 5)", 0);
            });
        sentence(13, "BAD: also KIND 0; UNLIKE.", ALL, b -> {
            b.refused(BAD, "mark(0, 0)", "mark(1, 0)", "mark(0, 6)", "mark(0, -1)", "mark(6, 1)", "mark(-1, 1)",
                    "mark(MOST, 1)", "mark(LEAST, 5)", "mark(0, MOST)", "mark(0, LEAST)");
            b.finds(UNLIKE, "mark(0, 1)", "mark(0, 2)", "mark(0, 3)", "mark(0, 4)", "mark(0, 5)", "mark(1, 2)",
                    "mark(1, 4)", "mark(2, 1)", "mark(2, 3)", "mark(3, 5)", "mark(4, 2)", "mark(5, 4)");
            new Book().refused(BAD, "mark(0, 1)");
        });
    }

    public static void main(String[] args) {
        promise1();
        promise2();
        promise3();
        promise4();
        promise5();
        promise6();
        promise7();
        promise8();
        promise9();
        promise10();
        promise11();
        promise12();
        promise13();
        end(1, 13);
    }
}
