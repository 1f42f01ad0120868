/** The sentences of "Terms" (and of "What it is") that name a boundary case. */
public final class BoundariesOfTermsTest extends Sentences {
    private static void answers() {
        sentence(0, "An object is used for at most 512 calls", CALM, b -> {
            while (b.calls < 510) {
                b.due("week()", 9);
                b.due("undo(0)", 1);
            }
            while (b.calls < 511) {
                b.due("count(2)", 0);
            }
            b.due("week()", 9);
        });
        sentence(0, "in this order: BAD -1 (a number that is none, or not as told)", "", b -> {
            b.refused(BAD, "back(0)", "back(100)", "keep(3)", "heads(7)", "best(5, 0)", "best(0, 6)", "ways(5)",
                    "brings(6)", "fits(100)", "sure(-1)", "ask(100)", "duel(5)", "sum(100)", "odds(13)", "mid(-1)",
                    "lots(0, 1)", "lots(1, 0)");
            b.refused(BAD, "row(6, -1)", "lay(6, 0, 0)", "at(-1, 0)", "copy(0, 0, 6, 0, -1)", "text(4, -1)",
                    "put(4, 0, 0)", "on(3)", "bold(0, 0)", "kinds(0, 0)", "test(0, 0)", "mark(0, 1)");
            full().refused(BAD, "back(0)", "cross(3)", "give(-1)", "lots(0, 1)");
            tried().refused(BAD, "back(100)", "cross(1)", "give(1)", "best(5, 0)", "ways(5)", "brings(6)",
                    "lots(21, 1)");
        });
        sentence(0, "STATE -4 (not now), SPENT -6 (more than told)", "", b -> {
            b.refused(STATE, "back(99)");
            tried().refused(STATE, "back(1)", "back(99)");
        });
        sentence(0, "FINDING -3 (finding() tells which)", "", b -> {
            b.refused(STATE, "brings(0)", "sure(99)", "ask(99)");
            tried().refused(STATE, "brings(0)");
            Book c = Book.of(CALM);
            c.finds(NOTHING, "brings(0)");
            c.finds(NOUGHT, "sure(99)", "ask(99)");
        });
        sentence(0, "NONE -9 (a ROW that something was to come to stays as it is then).", "k1001 t190 t190", b -> {
            b.lay(0, 9, 1, 1);
            b.refused(NONE, "fault(0)", "silent()", "heads(3)", "sum(99)", "test(0, 0)");
            b.due("give(0)", 1);
            b.due("give(1)", 2);
            b.refused(NONE, "ask(0)");
            b.holds(0, 9, 1, 1);
        });
    }

    private static void refusals() {
        sentence(0, "What is refused changes nothing but finding(), findings().", ALL, b -> {
            b.lay(0, 3, 1, 4);
            b.does("keep(1)", "odds(6)", "at(0, 2)");
            b.refused(BAD, "row(0, 41)", "text(0, 61)", "thief(0, 8)", "undo(1)", "best(5, 0)", "count(11)",
                    "findings(6)");
            b.finds(SIZE, "row(0, -1)", "text(0, -1)", "copy(0, 0, 0, 0, -1)");
            b.finds(NOTHING, "tear(1)", "on(0)", "book(1)");
            b.finds(BEYOND, "lay(0, 3, 9)", "put(0, 35, 9)", "copy(0, 0, 0, 1, 3)");
            b.lay(1, 6);
            b.finds(UNLIKE, "mark(0, 1)", "brings(1)", "bold(0, 0)");
            Book c = full();
            c.refused(FULL, "week()", "back(1)", "cross(0)", "give(0)", "lots(1, 1)");
            Book d = tried();
            d.lay(0, 3, 1, 4);
            d.refused(STATE, "week()", "back(1)", "cross(0)", "give(0)", "best(1, 0)", "ways(1)", "brings(0)",
                    "lots(1, 1)");
        });
        sentence(0, "1 NOTHING (a ROW, a TEXT, a kept BOOK that is missing)", "", b ->
            b.finds(NOTHING, "at(0, 0)", "fault(0)", "on(0)"));
        sentence(0, "2 BEYOND (a place that there is not)", "", b -> {
            b.does("row(0, 1)", "text(0, 1)", "at(0, 0)", "put(0, 0, 32)");
            b.finds(BEYOND, "at(0, 1)", "at(0, -1)", "put(0, 1, 32)", "put(0, -1, 32)");
        });
        sentence(0, "3 UNLIKE (a THIEF of another KIND; a number that is none; one who is not left)", CALM, b -> {
            b.finds(UNLIKE, "mark(0, 2)");
            b.lay(0, 10, 0, 0);
            b.finds(UNLIKE, "bold(0, 0)");
            b.does("give(2)");
            b.lay(0, 2);
            b.finds(UNLIKE, "brings(0)");
        });
        sentence(0, "4 NOUGHT (shared among none; nothing fits)", CALM, b -> {
            b.does("row(0, 0)");
            b.finds(NOUGHT, "mean(0)", "sure(1)", "ask(1)");
        });
        sentence(0, "5 SIZE (fewer than none; not as many as due).", CALM, b -> {
            b.finds(SIZE, "row(0, -1)", "text(1, -1)");
            b.does("row(0, 5)");
            b.finds(SIZE, "brings(0)", "bold(0, 0)", "kinds(0, 0)", "test(0, 0)");
        });
    }

    private static void numbersAndSets() {
        sentence(0, "in lowest terms, the lower number above 0 (0 by 1).", BOLD, b -> {
            b.numbers("odds(6)", 1, 2);
            b.numbers("odds(0)", 0, 1);
            b.numbers("odds(12)", 1, 1);
            b.numbers("mid(0)", 0, 1);
            b.numbers("mid(12)", 5, 1);
            b.numbers("mid(2)", 5, 6);
            b.numbers("fits(4)", 0, 1);
            b.numbers("fits(5)", 1, 1);
            b.numbers("ways(1)", 1, 1);
            Book c = Book.of("k1111 t190 t190");
            c.numbers("ways(1)", 0, 1);
            c.numbers("odds(8)", 4, 9);
        });
        sentence(0, "Sets (of THIEVES, KINDS, numbers 0 .. 9) are told by bits.", ALL, b -> {
            b.due("count(5)", 63);
            b.due("sure(23)", 63);
            b.does("row(0, 0)");
            b.due("kinds(0, 0)", 63);
            b.due("bold(0, 0)", 1023);
            b.lay(0, 9, 2, 1);
            b.due("kinds(0, 0)", 16);
            b.due("bold(0, 0)", 0);
        });
        sentence(0, "ROWS 0 .. 5 are rows of 0 to 40 ints, TEXTS 0 .. 3 rows of 0 to 60 bytes, or missing", "", b -> {
            for (int r = 0; r < 6; r++) {
                b.due("row(" + r + ", 40)", 40);
                b.finds(BEYOND, "at(" + r + ", 40)");
                b.due("row(" + r + ", 0)", 0);
            }
            Book c = new Book();
            for (int t = 0; t < 4; t++) {
                c.due("text(" + t + ", 60)", 60);
                c.due("put(" + t + ", 59, 1)", 1032);
                c.finds(BEYOND, "put(" + t + ", 60, 1)");
                c.due("text(" + t + ", 0)", 0);
            }
            c.refused(BAD, "row(6, 0)", "row(-1, 0)", "row(0, 41)", "text(4, 0)", "text(-1, 0)", "text(0, 61)");
        });
        sentence(0, "or missing (at first).", "", b -> {
            b.finds(NOTHING, "tear(0)", "tear(5)", "put(0, 0, 0)", "put(3, 0, 0)");
            b.does("row(5, 0)", "text(3, 0)");
            b.finds(BEYOND, "at(5, 0)", "put(3, 0, 0)");
        });
    }

    private static void items() {
        sentence(0, "A BOOK (without THIEVES at first)", "", b -> {
            b.counts(0, 0, 0, 0, 0, 0, 0, 0, 0, 0, 0);
            b.refused(BAD, "thief(0, 0)", "mark(0, 1)", "cross(0)", "give(0)");
            b.refused(STATE, "week()", "back(1)", "keep(0)", "speak()", "duel(0)");
        });
        sentence(0, "blanks (32) ahead, between, behind as many as wanted", "", b -> {
            b.fault("k0001t000", NONE);
            b.fault("k0001t000r000c000g000l000y000", NONE);
            b.fault(" ".repeat(17) + "k0001" + " ".repeat(17) + "t000" + " ".repeat(17), NONE);
            b.fault(" ".repeat(51) + "k0001t000", NONE);
            b.fault("k0001t000" + " ".repeat(51), NONE);
            b.fault("k0001  t000   t000", NONE);
            b.fault("\tk0001t000", 0);
            b.fault("k0001\nt000", 5);
            b.fault("k0001t000!", 9);
            b.fault("k0001t000" + (char) 31, 9);
            b.fault("k0001" + (char) 0 + "t000", 5);
        });
        sentence(0, "none within items.", "", b -> {
            b.fault("k 0001t000", 1);
            b.fault("k0 001t000", 2);
            b.fault("k00 01t000", 3);
            b.fault("k000 1t000", 4);
            b.fault("k0001t 000", 6);
            b.fault("k0001t0 00", 7);
            b.fault("k0001t00 0", 8);
        });
        sentence(0, "The first item is k (107), BOUNTY (0 .. 9), FEE (0 .. 9), FEAR (0 .. 9), the BENCH (1 .. 6)", "",
            b -> {
                b.fault("k0001t000", NONE);
                b.fault("k9996t000", NONE);
                b.fault("j0001t000", 0);
                b.fault("l0001t000", 0);
                b.fault("K0001t000", 0);
                b.fault("k/001t000", 1);
                b.fault("k:001t000", 1);
                b.fault("k0/01t000", 2);
                b.fault("k0:01t000", 2);
                b.fault("k00/1t000", 3);
                b.fault("k00:1t000", 3);
                b.fault("k0000t000", 4);
                b.fault("k0007t000", 4);
                b.fault("t000k0001", 0);
            });
        sentence(0, "the BENCH (1 .. 6), one figure each.", "", b -> {
            b.fault("k000", 4);
            b.fault("k000 t000", 4);
            b.fault("k00011t000", 5);
            b.fault("k0001k0001t000", 5);
        });
    }

    private static void thieves() {
        sentence(0, "Then THIEVES (1 to 6; 0, 1, .. as they come)", "", b -> {
            b.fault("k0001 t100", NONE);
            b.due("book(3)", 1);
            b.each(1, 1);
            b.fault("k0001 t100 r200 c300 g400 l500 y600", NONE);
            b.due("book(3)", 6);
            b.each(1, 1, 2, 3, 4, 5, 6);
            b.each(0, 0, 1, 2, 3, 4, 5);
            b.fault("k0001", 5);
            b.fault("k0001 t100 r200 c300 g400 l500 y600 t700", 36);
        });
        sentence(0, "a letter, SKILL (0 .. 9), BOLDNESS (0 .. 9), CROSSES (0 .. 2), one figure each.", "", b -> {
            b.fault("k0001t000", NONE);
            b.fault("k0001t992", NONE);
            b.fault("k0001t/00", 6);
            b.fault("k0001t:00", 6);
            b.fault("k0001t0/0", 7);
            b.fault("k0001t0:0", 7);
            b.fault("k0001t00/", 8);
            b.fault("k0001t003", 8);
            b.fault("k0001t009", 8);
            b.fault("k0001t0001", 9);
            b.fault("k0001t0t00", 7);
        });
    }

    private static void faults() {
        sentence(0, "(a letter, a figure that is none such, a seventh THIEF: its place;", "", b -> {
            b.fault("k00x1t000", 3);
            b.fault("k0001x000", 5);
            b.fault("k0001t0x0", 7);
            b.fault("k0001t000r000c000g000l000y000t000", 29);
            b.fault("k0001t000r000c000g000l000y000t", 29);
            b.fault("k0001t000r000c000g000l000y000  t9", 31);
        });
        sentence(0, "A FAULT is the first place at which it can't go on so", "", b -> {
            b.fault("x0007t003", 0);
            b.fault("k0007t003", 4);
            b.fault("k0001t003r:00", 8);
            b.fault("k0001t000r:0:", 10);
        });
        sentence(0, "the TEXT's size, if its end comes too early", "", b -> {
            b.fault("k", 1);
            b.fault("k0", 2);
            b.fault("k00", 3);
            b.fault("k000", 4);
            b.fault("k0001t", 6);
            b.fault("k0001t0", 7);
            b.fault("k0001t00", 8);
            b.fault("  k0001  t000 r0", 16);
            b.fault(" ".repeat(57) + "k00", 60);
        });
        sentence(0, "or there is no THIEF", "", b -> {
            b.fault("k0001", 5);
            b.fault("k0001   ", 8);
            b.fault("k0001" + " ".repeat(55), 60);
        });
        sentence(0, "or there are blanks alone)", "", b -> {
            b.fault("", 0);
            b.fault(" ", 1);
            b.fault(" ".repeat(60), 60);
        });
    }

    private static void kinds() {
        sentence(0, "0 THIEF (t, 116), 1 RETURNED (r, 114; a THIEF), 2 CLERK (c, 99; a THIEF), 3 GANG (g, 103;"
            + " a THIEF), 4 LACE (l, 108; a RETURNED), 5 YOUNG (y, 121; a GANG).", "", b -> {
                String letters = "trcgly";
                for (int letter = 'a' - 1; letter <= 'z' + 1; letter++) {
                    b.fault("k0001" + (char) letter + "000", letters.indexOf(letter) >= 0 ? NONE : 5);
                }
                Book c = new Book();
                for (int letter = 'A' - 1; letter <= 'Z' + 1; letter++) {
                    c.fault("k0001" + (char) letter + "000", 5);
                }
                Book d = Book.of("k0001 t000 r000 c000 g000 l000 y000");
                d.each(0, 0, 1, 2, 3, 4, 5);
                d.does("mark(1, 1)", "mark(2, 2)", "mark(3, 3)", "mark(4, 4)", "mark(4, 1)", "mark(5, 5)",
                        "mark(5, 3)");
                d.finds(UNLIKE, "mark(1, 4)", "mark(3, 5)", "mark(4, 3)", "mark(5, 1)");
            });
    }

    private static void stealing() {
        sentence(0, "All are LEFT at first.", ALL, b -> {
            b.each(6, 1, 1, 1, 1, 1, 1);
            b.due("count(5)", 63);
            Book.of(BOLD).due("count(5)", 1);
        });
        sentence(0, "One STEALS SKILL a WEEK;", "k0006 t000 t900", b -> b.each(4, 0, 9));
        sentence(0, "a RETURNED one (LACE, too) 1 more;", "k0006 r000 r900 l000 l902", b -> b.each(4, 1, 10, 1, 10));
        sentence(0, "a CLERK half (cut);", "k0006 c000 c100 c200 c800 c900", b -> b.each(4, 0, 0, 1, 4, 4));
        sentence(0, "a GANG one (YOUNG, too) 1 more for each other GANG one (YOUNG, too) that is LEFT;",
            "k0006 g000 g900 y000 y900 g100 g000", b -> {
                b.each(4, 5, 14, 2, 7, 6, 5);
                b.does("give(5)", "give(3)");
                b.each(4, 3, 12, 1, 6, 4, 4);
                b.does("give(0)", "give(1)", "give(2)");
                b.each(4, 1, 10, 0, 5, 1, 1);
                b.does("give(4)");
                b.each(4, 0, 9, 0, 4, 1, 0);
                Book.of("k0006 g000 t900 r900 c900 l900").each(4, 0);
            });
        sentence(0, "a YOUNG one half of what a GANG one would (cut).", "k0006 y000 t000", b -> {
            b.each(4, 0);
            Book.of("k0006 y100").each(4, 0);
            Book.of("k0006 y900").each(4, 4);
            Book.of("k0006 y000 g000").each(4, 0, 1);
            Book.of("k0006 y100 g000").each(4, 1, 1);
            Book.of("k0006 y100 y200").each(4, 1, 1);
            Book.of("k0006 y300 y400").each(4, 2, 2);
        });
    }

    private static void speaking() {
        sentence(0, "One SPEAKS, if BOLDNESS is more than FEAR and twice the CROSSES together;",
            "k0046 t040 t050 t061 t071 t082 t092", b -> {
                b.each(5, 0, 1, 0, 1, 0, 1);
                Book.of("k0006 t000 t010 t021 t031 t042 t052").each(5, 0, 1, 0, 1, 0, 1);
                Book.of("k0096 t090 t092").each(5, 0, 0);
                Book.of("k0086 t080 t090 t091").each(5, 0, 1, 0);
            });
        sentence(0, "a RETURNED one never;", "k0006 r990 r991 r992 r000", b -> b.each(5, 0, 0, 0, 0));
        sentence(0, "a LACE just if he has 2 CROSSES;", "k0006 l090 l091 l092 l002", b -> {
            b.each(5, 0, 0, 1, 1);
            Book.of("k0096 l090 l091 l092 l002").each(5, 0, 0, 1, 1);
        });
        sentence(0, "a CLERK besides only if he has none;", "k0016 c010 c020 c091 c092", b -> {
            b.each(5, 0, 1, 0, 0);
            b.does("cross(1)");
            b.each(5, 0, 0);
        });
        sentence(0, "a GANG one (YOUNG, too) besides only if at most one other GANG one (YOUNG, too) is LEFT;",
            "k0006 g010 g000 y010 t000", b -> {
                b.each(5, 0, 0, 0, 0);
                b.does("give(1)");
                b.each(5, 1, 0, 1, 0);
                b.does("give(0)");
                b.each(5, 1, 0, 1, 0);
                Book.of("k0006 g010").each(5, 1);
                Book.of("k0006 g010 g010").each(5, 1, 1);
                Book.of("k0006 y010 y010 y010").each(5, 0, 0, 0);
                Book.of("k0006 g090 g090 g090 g090 g090 g090").each(5, 0, 0, 0, 0, 0, 0);
            });
        sentence(0, "for a YOUNG one BOLDNESS counts as 2 more.", "k0046 y020 y030", b -> {
            b.each(5, 0, 1);
            Book.of("k0046 y041 y051").each(5, 0, 1);
            Book.of("k0096 y080 y091").each(5, 1, 0);
            Book.of("k0026 y000 y010").each(5, 0, 1);
            Book.of("k0016 y000 y090").each(2, 0, 9);
        });
        sentence(0, "The HEAD of one brings BOUNTY and as much as CROSSES;", "k0006 t002 r001 g000 l002", b -> {
            b.each(7, 2, 1, 0, 2);
            Book.of("k9006 t002 r001 g000 l002").each(7, 11, 10, 9, 11);
        });
        sentence(0, "of a CLERK half of that (cut);", "k0006 c000 c001 c002", b -> {
            b.each(7, 0, 0, 1);
            Book.of("k9006 c000 c001 c002").each(7, 4, 5, 5);
        });
        sentence(0, "of a YOUNG one 1 less (0 at least).", "k0006 y000 y001 y002", b -> {
            b.each(7, 0, 0, 1);
            b.due("give(0)", 0);
            Book.of("k1006 y000 y001 y002").each(7, 0, 1, 2);
            Book.of("k9006 y000 y002").each(7, 8, 10);
        });
    }

    private static void weeks() {
        sentence(0, "if as many as the BENCH, or more, of those LEFT SPEAK, he is TRIED", "k0003 t110 t110 t100", b -> {
            b.told("week()", 3, 0);
            Book.of("k0003 t110 t110 t110").told("week()", 0, 1);
            Book.of("k0003 t110 t110 t110 t110").told("week()", 0, 1);
            Book.of("k0001 t100 t100").told("week()", 2, 0);
            Book.of("k0001 t100 t110").told("week()", 0, 1);
            Book.of("k0006 t110 t110 t110 t110 t110").told("week()", 5, 0);
            Book.of("k0006 t110 t110 t110 t110 t110 t110").told("week()", 0, 1);
            Book c = Book.of("k0002 t110 t110 t100");
            c.does("give(1)");
            c.told("week()", 2, 0);
        });
        sentence(0, "(nothing goes on then)", BOLD, b -> {
            b.told("week()", 0, 1);
            b.refused(STATE, "week()", "cross(0)", "give(0)", "back(1)", "lots(1, 1)");
        });
        sentence(0, "else STOCK is more by what all LEFT STEAL.", "k0001 t900 r900", b -> {
            b.due("week()", 19);
            b.does("give(0)");
            b.due("week()", 29);
            b.does("give(1)");
            b.due("week()", 29);
            b.due("count(4)", 29);
        });
        sentence(0, "goods of the STOCK given back (each brings FEE)", "k0006 t900", b -> {
            b.does("week()");
            b.due("back(9)", 0);
            b.due("count(4)", 0);
            Book c = Book.of("k0906 t900");
            c.does("week()");
            c.due("back(1)", 9);
            c.due("back(8)", 81);
        });
        sentence(0, "a CROSS more for one (2 at most)", CALM, b -> {
            b.due("cross(0)", 1);
            b.due("cross(0)", 2);
            b.refused(STATE, "cross(0)");
            Book.of("k0006 t002").refused(STATE, "cross(0)");
        });
        sentence(0, "one given up (his HEAD is paid; he is not LEFT).", "k5006 t001", b -> {
            b.due("give(0)", 6);
            b.counts(1, 0, 1, 6, 0, 0, 0);
        });
        sentence(0, "These are DEEDS (40 at most).", CALM, b -> {
            b.times(36, "week()");
            b.does("back(9)", "cross(1)", "give(0)", "week()");
            b.due("count(2)", 40);
            b.refused(FULL, "week()", "back(1)", "cross(1)", "give(1)", "lots(1, 1)");
            b.due("undo(39)", 1);
            b.does("week()");
            b.refused(FULL, "week()");
        });
        sentence(0, "MONEY, STOCK are 0 at first.", ALL, b -> b.counts(6, 0, 0, 0, 0));
    }

    private static void plans() {
        sentence(0, "for each one that is given up ahead of it, of those LEFT (each once at most), or nobody", CALM,
            b -> {
                b.does("give(0)");
                b.lay(0, 1, NONE, 2, NONE);
                b.told("brings(0)", 5 + 6 + 6 + 2, NONE);
                b.lay(0, NONE, NONE, NONE, NONE);
                b.told("brings(0)", 60, NONE);
                b.lay(0, 0);
                b.finds(UNLIKE, "brings(0)");
                b.lay(0, 1, 1);
                b.finds(UNLIKE, "brings(0)");
            });
        sentence(0, "behind each WEEK all STOCK is given back.", CALM, b -> {
            b.does("week()", "week()");
            b.lay(0, NONE);
            b.told("brings(0)", 81, NONE);
            b.lay(0, NONE, NONE);
            b.told("brings(0)", 108, NONE);
            b.due("count(4)", 18);
        });
        sentence(0, "If he is TRIED in one, nothing more is had by that WEEK (the HEAD of the one given up ahead"
            + " of it is had), nor behind it (nobody is given up any more).", LACED, b -> {
                b.does("week()", "cross(0)", "cross(0)");
                b.lay(0, NONE);
                b.told("brings(0)", 0, 0);
                Book c = Book.of("k5301 t290 t190 r310");
                c.lay(0, 0, 1);
                c.told("brings(0)", 5, 0);
                c.lay(0, 0, 1, 2, NONE);
                c.told("brings(0)", 5, 0);
                c.due("best(2, 1)", 5);
                c.holds(1, 0, NONE);
                c.due("give(0)", 5);
                c.lay(0, 1, 2);
                c.told("brings(0)", 5 + 12 + 5, NONE);
            });
        sentence(0, "PLANS go by nobody, then by numbers, WEEK by WEEK, the first ones first.", "k2116 t200 t200",
            b -> {
                b.due("best(1, 0)", 4);
                b.holds(0, NONE);
                b.due("best(2, 0)", 8);
                b.holds(0, NONE, NONE);
                Book c = Book.of("k3116 t200 t200");
                c.due("best(1, 0)", 5);
                c.holds(0, 0);
                c.due("best(2, 0)", 9);
                c.holds(0, NONE, 0);
                Book d = Book.of("k0006 t900 t900");
                d.due("best(4, 0)", 0);
                d.holds(0, NONE, NONE, NONE, NONE);
                Book e = Book.of("k5006 t000 t000 t000");
                e.due("best(2, 0)", 10);
                e.holds(0, 0, 1);
                e.due("best(4, 0)", 15);
                e.holds(0, NONE, 0, 1, 2);
            });
    }

    private static void aheadOfTheCalls() {
        sentence(0, "4 plans (n 0 .. 4 WEEKS; the STOCK as it is).", CALM, b -> {
            b.due("best(0, 0)", 0);
            b.does("best(4, 0)", "ways(0)", "ways(4)");
            b.refused(BAD, "best(5, 0)", "best(-1, 0)", "ways(5)", "ways(-1)", "best(MOST, 0)", "ways(LEAST)");
            b.does("week()");
            b.due("best(1, 0)", 54);
            b.due("best(0, 0)", 0);
            b.due("count(4)", 9);
        });
        sentence(0, "6 when one spoke (a ROW of triples: FEAR 0 .. 9, CROSSES 0 .. 2, 1: he SPOKE, 0: not;", CALM,
            b -> {
                b.lay(0, 0, 0, 0, 9, 2, 0);
                b.due("bold(0, 0)", 1);
                b.lay(0, 9, 0, 1);
                b.due("bold(0, 0)", 0);
                b.lay(0, 10, 0, 0);
                b.finds(UNLIKE, "bold(0, 0)", "kinds(0, 0)", "test(0, 0)");
                b.lay(0, 0, 3, 0);
                b.finds(UNLIKE, "bold(0, 0)", "kinds(0, 0)", "test(0, 0)");
                b.lay(0, 0, 0, 2);
                b.finds(UNLIKE, "bold(0, 0)", "kinds(0, 0)", "test(0, 0)");
            });
        sentence(0, "GANGS as they are now).", "k0006 g110 g110 y110", b -> {
            b.lay(0, 0, 0, 1);
            b.due("bold(0, 0)", 0);
            b.due("kinds(0, 0)", 1 + 4);
            b.does("give(2)");
            b.due("bold(0, 0)", 1022);
            b.due("kinds(0, 0)", 1 + 4 + 8 + 32);
        });
    }

    public static void main(String[] args) {
        answers();
        refusals();
        numbersAndSets();
        items();
        thieves();
        faults();
        kinds();
        stealing();
        speaking();
        weeks();
        plans();
        aheadOfTheCalls();
        end(0, 0);
    }
}
