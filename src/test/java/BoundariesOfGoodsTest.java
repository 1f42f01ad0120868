/** The sentences of promises 28 to 35 (whose goods, when one spoke, turns, sums) that name a boundary case. */
public final class BoundariesOfGoodsTest extends Sentences {
    private static String two(String call, int i, int r) {
        return String.format(call, i, r);
    }

    private static void promise28() {
        sentence(28, "How many sets of those LEFT STEAL v (0 .. 99) together, as now, told by upper() (lower() is 1);",
            ALL, b -> {
                b.numbers("fits(0)", 1, 1);
                b.numbers("fits(1)", 0, 1);
                b.numbers("fits(23)", 1, 1);
                b.numbers("fits(24)", 0, 1);
                b.numbers("fits(99)", 0, 1);
                b.does("give(3)");
                b.numbers("fits(23)", 0, 1);
                b.numbers("fits(3)", 4, 1);
                Book.of("k0006 t000 t000 t000 t000 t000 t000").numbers("fits(0)", 64, 1);
                Book.of("k0006 g900 g900 g900 g900 g900 g900").numbers("fits(84)", 1, 1);
                Book c = Book.of(BOLD);
                c.does("give(0)");
                c.numbers("fits(0)", 1, 1);
                c.numbers("fits(5)", 0, 1);
            });
        sentence(28, "the first by asked() (bits; NONE): 1.", "k0006 t300 t100 t200 t000", b -> {
            b.tells("fits(0)", 0);
            b.tells("fits(3)", 1);
            b.tells("fits(2)", 4);
            b.tells("fits(6)", 7);
            b.tells("fits(7)", NONE);
            b.does("give(0)");
            b.tells("fits(3)", 6);
            b.tells("fits(6)", NONE);
        });
        sentence(28, "BAD; STATE: no THIEVES.", "", b -> {
            b.refused(BAD, "fits(100)", "fits(-1)", "fits(MOST)", "fits(LEAST)");
            b.refused(STATE, "fits(0)", "fits(99)");
            Book.of(CALM).refused(BAD, "fits(100)", "fits(-1)");
        });
    }

    private static void promise29() {
        sentence(29, "THIEVES (bits) that are in each such set; those LEFT that are in none by asked().", ALL, b -> {
            b.told("sure(0)", 0, 63);
            b.told("sure(23)", 63, 0);
            b.told("sure(5)", 8, 55);
            b.told("sure(11)", 8, 0);
            b.does("give(0)");
            b.told("sure(0)", 0, 62);
            b.told("sure(20)", 62, 0);
            b.does("give(1)", "give(2)", "give(3)", "give(4)", "give(5)");
            b.told("sure(0)", 0, 0);
            Book.of("k0006 t000 t000").told("sure(0)", 0, 0);
        });
        sentence(29, "NOUGHT: there is no set.", CALM, b -> {
            b.finds(NOUGHT, "sure(1)", "sure(8)", "sure(10)", "sure(99)");
            b.told("sure(9)", 7, 0);
            b.does("give(0)", "give(1)", "give(2)");
            b.finds(NOUGHT, "sure(9)", "sure(1)");
        });
        sentence(29, "BAD; STATE; NOUGHT: there is no set. (In this order.)", "", b -> {
            b.refused(BAD, "sure(100)", "sure(-1)", "sure(MOST)", "sure(LEAST)");
            b.refused(STATE, "sure(0)", "sure(99)");
            Book c = Book.of(CALM);
            c.refused(BAD, "sure(100)", "sure(-1)");
            c.finds(NOUGHT, "sure(99)");
        });
    }

    private static void promise30() {
        sentence(30, "The THIEF (the first, LEFT) of whom it is best to know whether he was in it:",
            "k0006 t500 t100 t200 t300", b -> {
                b.told("ask(3)", 1, 1);
                b.told("ask(0)", 0, 1);
                b.told("ask(11)", 0, 1);
                b.does("give(0)");
                b.told("ask(0)", 1, 1);
                b.does("give(1)", "give(2)");
                b.told("ask(3)", 3, 1);
            });
        sentence(30, "the greater number of sets, with him or without, is least; that by asked().",
            "k0006 t200 t100 t100 t100", b -> {
                b.told("ask(2)", 1, 2);
                b.told("ask(3)", 1, 2);
                b.told("ask(1)", 1, 2);
                Book.of("k0006 t000 t000 t100").told("ask(0)", 0, 2);
                Book.of("k0006 t100 t000").told("ask(0)", 1, 1);
            });
        sentence(30, "NONE: nobody is LEFT.", BOLD, b -> {
            b.told("ask(5)", 0, 1);
            b.does("give(0)");
            b.refused(NONE, "ask(0)");
        });
        sentence(30, "BAD; STATE; NOUGHT. (In this order.)", "", b -> {
            b.refused(BAD, "ask(100)", "ask(-1)", "ask(MOST)", "ask(LEAST)");
            b.refused(STATE, "ask(0)", "ask(99)");
            Book c = Book.of(CALM);
            c.refused(BAD, "ask(100)", "ask(-1)");
            c.finds(NOUGHT, "ask(1)", "ask(10)", "ask(99)");
            c.does("give(0)", "give(1)", "give(2)");
            c.finds(NOUGHT, "ask(1)");
            c.refused(BAD, "ask(100)");
        });
    }

    private static void refusedTriples(int of, String call) {
        sentence(of, "BAD; NOTHING; SIZE", CALM, b -> {
            b.does("row(0, 0)", "row(1, 4)");
            b.refused(BAD, two(call, 3, 0), two(call, -1, 0), two(call, 0, 6), two(call, 0, -1), two(call, MOST, 0),
                    two(call, LEAST, 0), two(call, 0, MOST), two(call, 0, LEAST), two(call, 3, 1), two(call, 3, 2));
            b.finds(NOTHING, two(call, 0, 2), two(call, 2, 5));
            b.does(two(call, 0, 0), two(call, 2, 0));
            Book c = new Book();
            c.does("row(0, 0)");
            c.refused(BAD, two(call, 0, 0), two(call, 0, 1));
        });
        sentence(of, of == 31 ? "SIZE: not by triples (a ROW without places is well);" : "SIZE;", CALM, b -> {
            for (int size : new int[] {1, 2, 4, 5, 38, 40}) {
                b.does("row(0, " + size + ")");
                b.finds(SIZE, two(call, 0, 0));
            }
            for (int size : new int[] {0, 3, 6, 39}) {
                b.does("row(0, " + size + ")", two(call, 0, 0));
            }
        });
        sentence(of, of == 31 ? "UNLIKE: a number that is none." : "UNLIKE.", CALM, b -> {
            int[][] unlike = {{10, 0, 0}, {-1, 0, 0}, {0, 3, 0}, {0, -1, 0}, {0, 0, 2}, {0, 0, -1}, {LEAST, 0, 0},
                {0, MOST, 0}, {0, 0, NONE}, {0, 0, 0, 9, 2, 2}};
            for (int[] triple : unlike) {
                b.lay(0, triple);
                b.finds(UNLIKE, two(call, 0, 0));
            }
            b.lay(0, 9, 2, 0, 0, 0, 0);
            b.does(two(call, 0, 0));
        });
        sentence(of, "(In this order.)", CALM, b -> {
            b.lay(0, 10, 3, 2, 9);
            b.refused(BAD, two(call, 3, 0), two(call, 0, 7));
            b.finds(NOTHING, two(call, 0, 1));
            b.finds(SIZE, two(call, 0, 0));
            b.lay(0, 10, 3, 2);
            b.finds(UNLIKE, two(call, 0, 0));
        });
    }

    private static void promise31() {
        refusedTriples(31, "bold(%d, %d)");
        sentence(31, "BOLDNESS (bits 0 .. 9) that a THIEF can have by these.", "k0006 t000 r000 c000 g000 l000 y000",
            b -> {
                b.does("row(0, 0)");
                b.due("bold(1, 0)", 1023);
                b.lay(0, 0, 0, 1);
                int[] spoke = {1022, 0, 1022, 1022, 0, 1023};
                for (int i = 0; i < 6; i++) {
                    b.due("bold(" + i + ", 0)", spoke[i]);
                }
                b.lay(0, 9, 0, 1);
                int[] nine = {0, 0, 0, 0, 0, 512 + 256};
                for (int i = 0; i < 6; i++) {
                    b.due("bold(" + i + ", 0)", nine[i]);
                }
                b.lay(0, 0, 2, 0);
                int[] silent = {31, 1023, 1023, 31, 0, 7};
                for (int i = 0; i < 6; i++) {
                    b.due("bold(" + i + ", 0)", silent[i]);
                }
                b.lay(0, 3, 0, 1, 3, 0, 0);
                b.due("bold(0, 0)", 0);
                b.lay(0, 3, 0, 1, 4, 0, 0);
                b.due("bold(0, 0)", 16);
                b.lay(0, 8, 0, 1, 9, 2, 0);
                b.due("bold(0, 0)", 512);
            });
    }

    private static void promise32() {
        refusedTriples(32, "kinds(%d, %d)");
        sentence(32, "KINDS (bits) that he can be of by these, BOLDNESS as it is.", "k0006 t050", b -> {
            b.does("row(0, 0)");
            b.due("kinds(0, 0)", 63);
            b.lay(0, 4, 0, 1);
            b.due("kinds(0, 0)", 1 + 4 + 8 + 32);
            b.lay(0, 5, 0, 1);
            b.due("kinds(0, 0)", 32);
            b.lay(0, 7, 0, 1);
            b.due("kinds(0, 0)", 0);
            b.lay(0, 0, 2, 1);
            b.due("kinds(0, 0)", 1 + 8 + 16 + 32);
            b.lay(0, 9, 2, 1);
            b.due("kinds(0, 0)", 16);
            b.lay(0, 0, 2, 0);
            b.due("kinds(0, 0)", 2 + 4);
            b.lay(0, 0, 0, 0);
            b.due("kinds(0, 0)", 2 + 16);
            b.lay(0, 9, 1, 0);
            b.due("kinds(0, 0)", 63);
        });
    }

    private static void promise33() {
        refusedTriples(33, "test(%d, %d)");
        sentence(33, "by which, SPEAKING or not, the greater part of KINDS that kinds() tells is least"
            + " (the first by numbers);",
            "k0006 t000 t090", b -> {
                b.does("row(0, 0)");
                b.told("test(0, 0)", 0, 5);
                b.told("test(1, 0)", 1, 3);
                b.lay(0, 9, 2, 1);
                b.told("test(0, 0)", 0, 1);
                b.lay(0, 0, 0, 0);
                b.told("test(1, 0)", 2, 1);
                b.lay(0, 0, 2, 0);
                b.told("test(1, 0)", 0, 1);
            });
        sentence(33, "The FEAR (0 .. 9) and CROSSES (0 .. 2) told as 10 times FEAR and CROSSES,",
            "k1232 t100 g290", b -> {
                b.lay(0, 8, 0, 1, 0, 1, 1);
                b.due("kinds(1, 0)", 1 + 8 + 32);
                b.told("test(1, 0)", 52, 2);
                b.lay(0, 8, 0, 1);
                b.told("test(1, 0)", 1, 3);
            });
        sentence(33, "NONE: there is no such KIND.", "k0006 t000 t190", b -> {
            b.lay(0, 9, 1, 1);
            b.does("at(0, 0)");
            b.refused(NONE, "test(0, 0)", "test(1, 0)");
            b.lay(0, 5, 0, 0, 5, 0, 1);
            b.refused(NONE, "test(0, 0)", "test(1, 0)");
        });
    }

    private static void promise34() {
        sentence(34, "By n (0 .. 4) turns in all he marks a CROSS more for one LEFT (2 at most), or none,",
            "k0002 t020 t020", b -> {
                b.due("duel(0)", 2);
                b.due("duel(1)", 1);
                b.due("duel(2)", 2);
                b.due("duel(3)", 1);
                b.due("duel(4)", 2);
                b.counts(2, 0, 0, 0, 0, 3, 0);
                Book.of("k0001 t090").due("duel(1)", 1);
                Book.of("k0001 t052").due("duel(1)", 1);
                Book.of("k0001 l001").due("duel(1)", 0);
                Book.of("k0001 t041").due("duel(1)", 0);
                Book c = Book.of("k0001 t010 t010");
                c.does("give(0)", "give(1)");
                c.due("duel(0)", 0);
                c.due("duel(4)", 0);
            });
        sentence(34, "then one rubs a CROSS out of one LEFT, or none, he first, wanting few of those LEFT to SPEAK"
            + " at last, the other one many: how many.", "k0006 t021 t021", b -> {
                b.due("duel(0)", 0);
                b.due("duel(1)", 0);
                b.due("duel(2)", 1);
                b.due("duel(3)", 0);
                b.due("duel(4)", 1);
                Book.of("k0006 t000").due("duel(2)", 0);
                Book.of("k0006 l002 t000").due("duel(2)", 1);
                Book.of("k0006 t042").due("duel(2)", 1);
                Book c = Book.of("k0006 t021 t021");
                c.does("give(0)", "give(1)");
                c.due("duel(2)", 0);
            });
        sentence(34, "BAD; STATE: no THIEVES.", "", b -> {
            b.refused(BAD, "duel(5)", "duel(-1)", "duel(MOST)", "duel(LEAST)");
            b.refused(STATE, "duel(0)", "duel(4)");
            Book.of(CALM).refused(BAD, "duel(5)", "duel(-1)");
        });
    }

    private static void promise35() {
        sentence(35, "that bring v (0 .. 99) together, each HEAD counting as one;", CALM, b -> {
            b.told("sum(0)", 0, 0);
            b.told("sum(99)", 32, 3);
            b.told("sum(12)", 3, 3);
            b.told("sum(8)", 2, 1);
            Book.of("k0106 t000").told("sum(99)", 99, 0);
            Book.of("k0006 t000").told("sum(0)", 0, 0);
            Book.of("k0006 t002 t001").told("sum(3)", 2, 2);
            Book.of("k9006 t001 t001 t001 t001 t001 t001").told("sum(60)", 6, 6);
        });
        sentence(35, "The fewest goods given back (any STOCK) and HEADS (of those LEFT, as now)", CALM, b -> {
            b.due("count(4)", 0);
            b.told("sum(33)", 10, 3);
            b.does("give(2)");
            b.told("sum(33)", 11, 0);
            b.does("cross(0)");
            b.told("sum(33)", 10, 1);
            b.does("give(0)", "give(1)");
            b.told("sum(33)", 11, 0);
            b.refused(NONE, "sum(32)");
        });
        sentence(35, "how many HEADS of these by asked() (of like few the most).", "k3306 t000 t000 c001", b -> {
            b.told("sum(3)", 1, 1);
            b.told("sum(6)", 2, 2);
            b.told("sum(9)", 3, 2);
            b.told("sum(2)", 1, 1);
            Book.of("k3106 t000 t000 t002").told("sum(6)", 2, 2);
            Book.of("k3106 t002 t000 t000").told("sum(6)", 2, 2);
        });
        sentence(35, "NONE: by none.", "k1006 t000 t000", b -> {
            b.told("sum(2)", 2, 2);
            b.refused(NONE, "sum(3)", "sum(99)");
            b.does("give(0)");
            b.refused(NONE, "sum(2)");
            Book.of("k0906 t000").refused(NONE, "sum(1)", "sum(8)", "sum(98)");
            Book.of("k0906 t000").told("sum(99)", 11, 0);
            Book.of("k9906 t000").refused(NONE, "sum(1)", "sum(10)");
        });
        sentence(35, "BAD; STATE: no THIEVES.", "", b -> {
            b.refused(BAD, "sum(100)", "sum(-1)", "sum(MOST)", "sum(LEAST)");
            b.refused(STATE, "sum(0)", "sum(99)");
            Book.of(CALM).refused(BAD, "sum(100)", "sum(-1)");
        });
    }

    public static void main(String[] args) {
        promise28();
        promise29();
        promise30();
        promise31();
        promise32();
        promise33();
        promise34();
        promise35();
        end(28, 35);
    }
}
