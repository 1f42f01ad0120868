/** The sentences of promises 14 to 20 (deeds) that name a boundary case. */
public final class BoundariesOfDeedsTest extends Sentences {
    private static void promise14() {
        sentence(14, "the STOCK then (as it was, if he is TRIED); whether he is TRIED by asked() (1, 0).", LACED, b -> {
            b.told("week()", 4, 0);
            b.does("cross(0)");
            b.told("week()", 8, 0);
            b.does("cross(0)");
            b.told("week()", 8, 1);
            b.counts(1, 3, 5, 0, 8, 1, 1);
            Book.of("k0006 t000").told("week()", 0, 0);
            Book c = Book.of("k0006 g900 g900 g900 g900 g900 g900");
            c.times(39, "week()");
            c.told("week()", 40 * 84, 0);
        });
        sentence(14, "STATE: no THIEVES, or he is TRIED;", "", b -> {
            b.refused(STATE, "week()");
            tried().refused(STATE, "week()");
        });
        sentence(14, "FULL: 40 DEEDS. (FULL last.)", CALM, b -> {
            b.times(39, "week()");
            b.told("week()", 360, 0);
            b.refused(FULL, "week()");
            b.does("undo(39)", "week()");
            b.refused(FULL, "week()");
            Book c = Book.of(LACED);
            c.times(37, "week()");
            c.does("cross(0)", "cross(0)");
            c.told("week()", 148, 1);
            c.due("count(2)", 40);
            c.refused(STATE, "week()");
        });
    }

    private static void promise15() {
        sentence(15, "n (1 .. 99) goods are given back: MONEY then.", CALM, b -> {
            b.times(12, "week()");
            b.due("back(1)", 3);
            b.due("back(99)", 300);
            b.due("count(4)", 8);
            b.due("back(8)", 324);
            b.due("count(4)", 0);
        });
        sentence(15, "BAD; STATE: no THIEVES, TRIED;", "", b -> {
            b.refused(BAD, "back(0)", "back(-1)", "back(100)", "back(MOST)", "back(LEAST)");
            b.refused(STATE, "back(1)", "back(99)");
            Book c = Book.of(LACED);
            c.does("week()", "cross(0)", "cross(0)", "week()");
            c.refused(BAD, "back(0)", "back(100)");
            c.refused(STATE, "back(1)", "back(5)");
        });
        sentence(15, "SPENT: more than the STOCK;", CALM, b -> {
            b.refused(SPENT, "back(1)", "back(99)");
            b.does("week()");
            b.refused(SPENT, "back(10)", "back(99)");
            b.refused(BAD, "back(100)");
            b.due("back(9)", 27);
            b.refused(SPENT, "back(1)");
        });
        sentence(15, "FULL. (FULL last.)", CALM, b -> {
            b.times(40, "week()");
            b.refused(FULL, "back(1)", "back(99)");
            b.refused(BAD, "back(0)", "back(100)");
            Book c = Book.of("k0006 t000");
            c.times(40, "week()");
            c.refused(SPENT, "back(1)");
            Book d = Book.of(LACED);
            d.times(37, "week()");
            d.does("cross(0)", "cross(0)", "week()");
            d.refused(STATE, "back(1)");
        });
    }

    private static void promise16() {
        sentence(16, "A CROSS: how many he has then.", "k0006 t000 t001 l000", b -> {
            b.due("cross(0)", 1);
            b.due("cross(0)", 2);
            b.due("cross(1)", 2);
            b.due("cross(2)", 1);
            b.each(3, 2, 2, 1);
        });
        sentence(16, "BAD; STATE: TRIED, he is not LEFT, or has 2;", CALM, b -> {
            b.refused(BAD, "cross(3)", "cross(-1)", "cross(MOST)", "cross(LEAST)");
            b.does("give(1)", "cross(0)", "cross(0)");
            b.refused(STATE, "cross(1)", "cross(0)");
            b.due("cross(2)", 1);
            tried().refused(STATE, "cross(0)");
            tried().refused(BAD, "cross(1)");
            Book.of("k0006 t002 t001").refused(STATE, "cross(0)");
            new Book().refused(BAD, "cross(0)");
        });
        sentence(16, "FULL. (FULL last.)", CALM, b -> {
            b.does("cross(1)", "cross(1)", "give(2)");
            b.times(37, "week()");
            b.refused(FULL, "cross(0)");
            b.refused(STATE, "cross(1)", "cross(2)");
            b.refused(BAD, "cross(3)");
            b.does("undo(39)");
            b.due("cross(0)", 1);
            b.refused(FULL, "cross(0)");
        });
    }

    private static void promise17() {
        sentence(17, "One is given up: MONEY then.", ALL, b -> {
            b.due("give(5)", 3);
            b.due("give(0)", 7);
            b.due("give(4)", 13);
            b.due("give(1)", 18);
            b.due("give(2)", 20);
            b.due("give(3)", 25);
            b.counts(6, 0, 6, 25, 0, 0, 0);
        });
        sentence(17, "BAD; STATE: TRIED, or he is not LEFT;", CALM, b -> {
            b.refused(BAD, "give(3)", "give(-1)", "give(MOST)", "give(LEAST)");
            b.does("give(2)");
            b.refused(STATE, "give(2)");
            tried().refused(STATE, "give(0)");
            tried().refused(BAD, "give(1)");
            new Book().refused(BAD, "give(0)");
        });
        sentence(17, "FULL. (FULL last.)", CALM, b -> {
            b.does("give(1)");
            b.times(39, "week()");
            b.refused(FULL, "give(0)");
            b.refused(STATE, "give(1)");
            b.refused(BAD, "give(3)");
            b.does("undo(39)");
            b.due("give(0)", 10);
            b.refused(FULL, "give(2)");
        });
    }

    private static void promise18() {
        sentence(18, "DEEDS from number n on (n 0 to how many there are: then 0) are undone: how many.", CALM, b -> {
            b.due("undo(0)", 0);
            b.does("week()", "back(4)", "cross(0)", "give(0)", "week()");
            b.due("undo(5)", 0);
            b.counts(3, 2, 5, 18, 10, 6, 0);
            b.due("undo(4)", 1);
            b.counts(3, 1, 4, 18, 5, 6, 0);
            b.due("undo(2)", 2);
            b.counts(3, 1, 2, 12, 5, 7, 0);
            b.tells("thief(0, 3)", 0);
            b.due("undo(0)", 2);
            b.counts(3, 0, 0, 0, 0, 7, 0);
            b.due("undo(0)", 0);
            b.times(40, "week()");
            b.due("undo(40)", 0);
            b.due("undo(0)", 40);
            Book c = tried();
            c.due("undo(1)", 0);
            c.due("count(6)", 1);
            c.due("undo(0)", 1);
            c.counts(1, 0, 0, 0, 0, 1, 0);
            new Book().due("undo(0)", 0);
        });
        sentence(18, "BAD.", CALM, b -> {
            b.does("week()", "week()");
            b.refused(BAD, "undo(3)", "undo(-1)", "undo(MOST)", "undo(LEAST)", "undo(41)");
            b.does("undo(1)");
            b.refused(BAD, "undo(2)");
            new Book().refused(BAD, "undo(1)", "undo(-1)");
        });
    }

    private static void promise19() {
        sentence(19, "The BOOK (as it is, DEEDS) is kept in a place (0 .. 2): how many DEEDS.", CALM, b -> {
            b.due("keep(0)", 0);
            b.does("week()");
            b.due("keep(2)", 1);
            b.due("count(10)", 2);
            b.times(39, "week()");
            b.due("keep(1)", 40);
            b.due("keep(1)", 40);
            b.due("count(10)", 3);
            b.due("on(0)", 0);
            b.due("on(1)", 40);
            b.due("on(2)", 1);
            b.due("keep(1)", 1);
            b.does("week()");
            b.due("on(1)", 1);
            tried().due("keep(0)", 1);
        });
        sentence(19, "BAD; STATE: no THIEVES.", "", b -> {
            b.refused(BAD, "keep(3)", "keep(-1)", "keep(MOST)", "keep(LEAST)");
            b.refused(STATE, "keep(0)", "keep(2)");
            Book.of(CALM).refused(BAD, "keep(3)", "keep(-1)");
        });
    }

    private static void promise20() {
        sentence(20, "The BOOK is as it was kept: how many DEEDS.", ALL, b -> {
            b.does("give(0)", "give(2)", "cross(3)", "keep(0)", "give(4)", "week()", "keep(2)");
            b.counts(6, 1, 5, 12, 14, 42, 0);
            b.due("on(0)", 3);
            b.counts(6, 0, 3, 6, 0, 58, 0);
            b.tells("thief(3, 3)", 2);
            b.does("undo(0)");
            b.due("on(2)", 5);
            b.counts(6, 1, 5, 12, 14, 42, 0);
            b.due("on(2)", 5);
            b.due("undo(3)", 2);
            b.counts(6, 0, 3, 6, 0, 58, 0);
            Book d = Book.of(CALM);
            d.does("week()", "back(4)", "cross(2)", "keep(1)", "undo(0)", "give(1)", "week()", "cross(0)", "week()");
            d.due("on(1)", 3);
            d.counts(3, 1, 3, 12, 5, 7, 0);
            d.each(3, 0, 0, 1);
            Book c = Book.of(BOLD);
            c.does("keep(0)", "week()", "keep(1)");
            c.due("on(0)", 0);
            c.due("count(6)", 0);
            c.due("on(1)", 1);
            c.due("count(6)", 1);
        });
        sentence(20, "BAD; NOTHING.", CALM, b -> {
            b.does("keep(1)");
            b.refused(BAD, "on(3)", "on(-1)", "on(MOST)", "on(LEAST)");
            b.finds(NOTHING, "on(0)", "on(2)");
            b.due("on(1)", 0);
            new Book().finds(NOTHING, "on(0)", "on(1)", "on(2)");
        });
    }

    public static void main(String[] args) {
        promise14();
        promise15();
        promise16();
        promise17();
        promise18();
        promise19();
        promise20();
        end(14, 20);
    }
}
