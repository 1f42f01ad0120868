/** The sentences of promises 21 to 27 (who speaks, plans) that name a boundary case. */
public final class BoundariesOfPlansTest extends Sentences {
    private static void withoutThieves(int of, String call) {
        sentence(of, "STATE: no THIEVES.", "", b -> b.refused(STATE, call));
    }

    private static void promise21() {
        withoutThieves(21, "speak()");
        sentence(21, "whether he would be TRIED by a WEEK now by asked() (1, 0).", "k0003 t110 t110 t110 t100", b -> {
            b.told("speak()", 7, 1);
            b.does("give(1)");
            b.told("speak()", 5, 0);
            b.does("give(0)", "give(2)");
            b.told("speak()", 0, 0);
            b.does("give(3)");
            b.told("speak()", 0, 0);
            Book.of("k0006 t010 t010 t010 t010 t010 t010").told("speak()", 63, 1);
            Book.of("k0006 t010 t010 t010 t010 t010 t000").told("speak()", 31, 0);
            tried().told("speak()", 1, 1);
        });
    }

    private static void promise22() {
        withoutThieves(22, "safe()");
        sentence(22, "The fewest of those LEFT to be given up so that he would not be TRIED by a WEEK now;",
            "k0001 t010 t010 t010 t010 t010 t010", b -> {
                b.told("safe()", 6, 63);
                b.does("give(0)");
                b.told("safe()", 5, 62);
                b.does("give(1)", "give(2)", "give(3)", "give(4)", "give(5)");
                b.told("safe()", 0, 0);
                Book.of("k0006 t010 t010 t010 t010 t010 t010").told("safe()", 1, 1);
                Book.of(CALM).told("safe()", 0, 0);
                tried().told("safe()", 1, 1);
            });
        sentence(22, "who by asked() (bits; the least number).", "k0002 r990 t010 t000 t010 t010", b -> {
            b.told("safe()", 2, 2 + 8);
            b.does("give(1)");
            b.told("safe()", 1, 8);
            Book c = Book.of("k0001 g010 g010 g000 t000");
            c.told("safe()", 0, 0);
            c.does("give(2)");
            c.told("safe()", 2, 3);
        });
    }

    private static void promise23() {
        withoutThieves(23, "silent()");
        sentence(23, "The fewest CROSSES more (2 at most each) to that end, nobody being given up;", "k0012 t130 t150",
            b -> {
                b.told("silent()", 1, 0);
                b.counts(2, 0, 0, 0, 0, 3, 0);
                Book.of("k0011 t130 t150").told("silent()", 3, 1);
                Book.of("k0001 t100").told("silent()", 0, 0);
                Book.of("k0001 t030 t030 t030 t030 t030 t030").told("silent()", 12, 6);
                Book.of("k0001 t041").told("silent()", 1, 1);
                Book.of("k0001 t021").told("silent()", 0, 0);
            });
        sentence(23, "how many have then 2 by asked() (of those LEFT; of like few CROSSES the most).",
            "k0012 t151 t130", b -> {
                b.told("silent()", 1, 1);
                Book.of("k0012 t130 t151").told("silent()", 1, 1);
                Book c = Book.of("k0001 t002 t902 t020");
                c.told("silent()", 1, 2);
                c.does("give(0)");
                c.told("silent()", 1, 1);
                c.does("give(1)", "give(2)");
                c.told("silent()", 0, 0);
            });
        sentence(23, "NONE: by none.", "k0001 t190 t000", b -> {
            b.does("thief(0, 2)");
            b.refused(NONE, "silent()");
            b.does("give(0)");
            b.told("silent()", 0, 0);
            Book.of("k0001 t050").refused(NONE, "silent()");
            Book.of("k0001 t040").told("silent()", 2, 1);
            Book.of("k0091 l002").refused(NONE, "silent()");
            Book.of("k0091 l001").told("silent()", 0, 0);
            Book.of("k0002 t190 t190 t190").refused(NONE, "silent()");
        });
    }

    private static void promise24() {
        sentence(24, "The most that n (0 .. 6) HEADS (of those LEFT, as now) bring together;", ALL, b -> {
            b.told("heads(0)", 0, 0);
            b.told("heads(1)", 6, 16);
            b.told("heads(6)", 25, 63);
            b.told("heads(5)", 23, 59);
            b.does("give(4)", "cross(0)", "cross(0)");
            b.told("heads(1)", 6, 1);
            b.told("heads(5)", 21, 47);
            Book c = Book.of("k0006 t000 t000");
            c.told("heads(2)", 0, 3);
            tried().told("heads(1)", 3, 1);
        });
        sentence(24, "whose by asked() (bits; the least number).", "k1006 t000 t001 r001 t001", b -> {
            b.told("heads(1)", 2, 2);
            b.told("heads(2)", 4, 6);
            b.told("heads(3)", 6, 14);
            Book.of("k0006 t000 t000 t000").told("heads(1)", 0, 1);
        });
        sentence(24, "NONE: not so many are LEFT.", CALM, b -> {
            b.does("heads(3)");
            b.refused(NONE, "heads(4)", "heads(6)");
            b.does("give(1)");
            b.refused(NONE, "heads(3)");
            b.told("heads(2)", 7, 5);
            b.does("give(0)", "give(2)");
            b.refused(NONE, "heads(1)", "heads(6)");
            b.told("heads(0)", 0, 0);
        });
        sentence(24, "BAD; STATE: no THIEVES.", "", b -> {
            b.refused(BAD, "heads(7)", "heads(-1)", "heads(MOST)", "heads(LEAST)");
            b.refused(STATE, "heads(0)", "heads(1)", "heads(6)");
            Book.of(CALM).refused(BAD, "heads(7)", "heads(-1)");
        });
    }

    private static void promise25() {
        sentence(25, "The most MONEY more by a PLAN;", CALM, b -> {
            b.does("week()");
            b.due("best(0, 0)", 0);
            b.due("best(1, 0)", 54);
            b.due("best(4, 0)", 54 + 81);
            b.does("back(9)");
            b.due("best(4, 0)", 108);
            b.does("give(0)", "give(1)", "give(2)");
            b.due("best(4, 0)", 0);
            b.holds(0, NONE, NONE, NONE, NONE);
            Book.of("k9006 t000 t000 t000 t000 t000 t000").due("best(4, 5)", 36);
            Book.of("k0906 g900 g900 g900 g900 g900 g900").due("best(4, 5)", 4 * 84 * 9);
        });
        sentence(25, "the first such one comes to a ROW (anew; THIEVES, NONE for nobody).", ALL, b -> {
            b.does("row(1, 40)");
            b.due("best(2, 1)", 6);
            b.holds(1, 4, NONE);
            b.due("best(4, 1)", 6);
            b.holds(1, 4, NONE, NONE, NONE);
            b.due("best(0, 1)", 0);
            b.holds(1);
            b.due("count(8)", 1);
            b.due("best(0, 5)", 0);
            b.due("count(8)", 2);
            Book c = Book.of("k3006 t001 t001 t000");
            c.due("best(3, 0)", 11);
            c.holds(0, 0, 1, 2);
            c.does("give(0)");
            c.due("best(1, 0)", 4);
            c.holds(0, 1);
            c.due("best(4, 0)", 7);
            c.holds(0, NONE, NONE, 1, 2);
        });
        sentence(25, "BAD; STATE: no THIEVES, TRIED.", "", b -> {
            b.lay(0, 4, 5);
            b.refused(BAD, "best(5, 0)", "best(-1, 0)", "best(0, 6)", "best(0, -1)", "best(MOST, 0)", "best(0, LEAST)");
            b.refused(STATE, "best(0, 0)", "best(4, 0)", "best(1, 1)");
            b.holds(0, 4, 5);
            Book c = tried();
            c.lay(0, 4, 5);
            c.refused(BAD, "best(5, 0)", "best(1, 6)");
            c.refused(STATE, "best(0, 0)", "best(4, 0)", "best(1, 1)");
            c.holds(0, 4, 5);
        });
    }

    private static void promise26() {
        sentence(26, "By how many PLANS he is never TRIED, told by upper() (lower() is 1);",
            "k0006 t000 t000 t000 t000 t000 t000", b -> {
                b.numbers("ways(0)", 1, 1);
                b.numbers("ways(1)", 7, 1);
                b.numbers("ways(4)", 1 + 4 * 6 + 6 * 30 + 4 * 120 + 360, 1);
                b.does("give(0)", "give(1)", "give(2)", "give(3)", "give(4)", "give(5)");
                b.numbers("ways(0)", 1, 1);
                b.numbers("ways(4)", 1, 1);
                Book.of("k0001 t090").numbers("ways(4)", 1, 1);
                Book.of("k0001 t090 t090").numbers("ways(4)", 0, 1);
                Book.of("k0001 t090 t090").numbers("ways(0)", 1, 1);
                Book.of("k0002 t090 t090 t000").numbers("ways(2)", 2 * 3, 1);
            });
        sentence(26, "THIEVES that are given up in all of these by asked() (bits; 0: there are none): 1.",
            "k0001 t090 t000 t000", b -> {
                b.tells("ways(1)", 1);
                b.tells("ways(4)", 1);
                b.tells("ways(0)", 0);
                Book.of("k0001 t090 t090 t000").tells("ways(4)", 0);
                Book.of("k0002 t090 t090 t000").tells("ways(4)", 0);
                Book.of("k0002 t000 t090 t000 t090").tells("ways(1)", 0);
                Book.of("k0006 t000").tells("ways(4)", 0);
                Book c = Book.of("k0001 t000 t090");
                c.tells("ways(2)", 2);
                c.does("give(1)");
                c.tells("ways(2)", 0);
            });
        sentence(26, "BAD; STATE: no THIEVES, TRIED.", "", b -> {
            b.refused(BAD, "ways(5)", "ways(-1)", "ways(MOST)", "ways(LEAST)");
            b.refused(STATE, "ways(0)", "ways(4)");
            tried().refused(BAD, "ways(5)", "ways(-1)");
            tried().refused(STATE, "ways(0)", "ways(4)");
        });
    }

    private static void promise27() {
        sentence(27, "MONEY more by a PLAN of a ROW (4 at most; THIEVES, NONE);", CALM, b -> {
            b.does("week()", "row(0, 0)");
            b.told("brings(0)", 0, NONE);
            b.lay(0, NONE);
            b.told("brings(0)", 54, NONE);
            b.lay(0, 0, 1, 2, NONE);
            b.told("brings(0)", 5 + 27 + 15 + 5 + 6 + 2, NONE);
            b.counts(3, 1, 1, 0, 9, 7, 0);
            b.does("row(0, 5)");
            b.finds(SIZE, "brings(0)");
        });
        sentence(27, "in which WEEK of it he is TRIED by asked() (0 the first; NONE: in none).", "k5301 g290 g190 g190",
            b -> {
                b.lay(0, 1, NONE);
                b.told("brings(0)", 5, 0);
                b.lay(0, NONE, 1);
                b.told("brings(0)", 30 + 5, 1);
                b.lay(0, NONE, NONE, NONE, 2);
                b.told("brings(0)", 90 + 5, 3);
                b.lay(0, NONE, NONE, NONE, NONE);
                b.told("brings(0)", 120, NONE);
                b.does("row(0, 0)");
                b.told("brings(0)", 0, NONE);
            });
        sentence(27, "BAD; STATE: no THIEVES, TRIED; NOTHING;", "", b -> {
            b.does("row(0, 5)");
            b.refused(BAD, "brings(6)", "brings(-1)", "brings(MOST)", "brings(LEAST)");
            b.refused(STATE, "brings(0)", "brings(1)");
            Book c = tried();
            c.refused(BAD, "brings(6)", "brings(-1)");
            c.refused(STATE, "brings(0)");
            Book.of(CALM).finds(NOTHING, "brings(0)", "brings(5)");
        });
        sentence(27, "SIZE: more than 4;", CALM, b -> {
            b.lay(0, NONE, NONE, NONE, NONE, NONE);
            b.finds(SIZE, "brings(0)");
            b.does("row(0, 40)");
            b.finds(SIZE, "brings(0)");
            b.lay(0, NONE, NONE, NONE, NONE);
            b.told("brings(0)", 108, NONE);
        });
        sentence(27, "UNLIKE: no THIEF, one who is not LEFT, one told twice.", CALM, b -> {
            int[][] unlike = {{3}, {-1}, {-8}, {-10}, {6}, {MOST}, {LEAST}, {NONE, NONE, NONE, 3}, {0, 0}, {0, NONE,
                NONE, 0}, {1, 2, 1}};
            for (int[] plan : unlike) {
                b.lay(0, plan);
                b.finds(UNLIKE, "brings(0)");
            }
            Book c = Book.of(CALM);
            c.does("give(1)");
            c.lay(0, 0, 1);
            c.finds(UNLIKE, "brings(0)");
            c.lay(0, 0, 2);
            c.told("brings(0)", 5 + 6 + 2, NONE);
            Book d = Book.of("k5301 t290 t190");
            d.lay(0, NONE, 0, 0);
            d.finds(UNLIKE, "brings(0)");
            d.lay(0, NONE, 2);
            d.finds(UNLIKE, "brings(0)");
        });
        sentence(27, "(In this order.)", CALM, b -> {
            b.lay(0, 9, 9, 9, 9, 9);
            b.finds(NOTHING, "brings(1)");
            b.finds(SIZE, "brings(0)");
            Book c = new Book();
            c.lay(0, 9, 9, 9, 9, 9);
            c.refused(BAD, "brings(6)");
            c.refused(STATE, "brings(0)", "brings(1)");
        });
    }

    public static void main(String[] args) {
        promise21();
        promise22();
        promise23();
        promise24();
        promise25();
        promise26();
        promise27();
        end(21, 27);
    }
}
