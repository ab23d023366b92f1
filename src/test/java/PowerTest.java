/** Promises 18 to 22: log, cutAfter, cut, open and isOpen. */
public final class PowerTest {
    private static final Due DUE = new Due();

    public static void main(String[] args) {
        logOfOpenAndClosedBooks();
        wrongWhich();
        cutAfterCountsOverCalls();
        cutAfterReplacesWhatWasSaid();
        wrongCutAfter();
        nothingMoreIsSaidBehindAFailure();
        cutNow();
        cutOfAClosedBook();
        fillUpFromEveryWord();
        failureInEveryWordOfOpen();
        openSpendsWords();
        openOfAnOpenBook();
        DUE.end();
    }

    private static void logOfOpenAndClosedBooks() {
        LogBook b = new LogBook();
        b.append(0, 0, -1, 1);
        b.append(0, 0, -1, 2);
        b.append(0, 0, -1, 3);
        b.force(6);
        b.giveBack(6);
        DUE.logIs(b, 6, 13, 21);
        b.cut();
        DUE.logIs(b, 6, 13, 13);
    }

    private static void wrongWhich() {
        LogBook b = new LogBook();
        for (int which : new int[] {-1, 3, Integer.MIN_VALUE, Integer.MAX_VALUE}) {
            DUE.fails("log(" + which + ")", IndexOutOfBoundsException.class, () -> b.log(which));
        }
        b.cut();
        DUE.fails("log(3), closed", IndexOutOfBoundsException.class, () -> b.log(3));
    }

    private static void cutAfterCountsOverCalls() {
        LogBook b = new LogBook();
        b.cutAfter(12);
        for (int i = 0; i < 3; i++) {
            b.append(0, 0, -1, 0);
        }
        DUE.is("force(0)", 5, () -> b.force(0));
        DUE.is("force(5)", 5, () -> b.force(5));
        DUE.is("force(10)", -1, () -> b.force(10));
        DUE.logIs(b, 0, 12, 12);
    }

    private static void cutAfterReplacesWhatWasSaid() {
        LogBook b = new LogBook();
        b.append(0, 0, -1, 0);
        b.cutAfter(0);
        b.cutAfter(-1);
        DUE.is("forceAll(), never failing", 5, b::forceAll);
        b.append(0, 0, -1, 0);
        b.cutAfter(100);
        b.cutAfter(4);
        DUE.is("forceAll()", -1, b::forceAll);
        LogBook c = new LogBook();
        c.append(0, 0, -1, 0);
        c.cutAfter(4);
        c.cutAfter(5);
        DUE.is("forceAll(), enough", 5, c::forceAll);
        DUE.yes("isOpen()", c.isOpen());
        LogBook d = new LogBook();
        d.append(0, 0, -1, 0);
        d.cutAfter(Integer.MAX_VALUE);
        DUE.is("forceAll(), far enough", 5, d::forceAll);
    }

    private static void wrongCutAfter() {
        LogBook b = new LogBook();
        b.append(0, 0, -1, 0);
        b.cutAfter(3);
        DUE.fails("cutAfter(-2)", IllegalArgumentException.class, () -> b.cutAfter(-2));
        DUE.fails("cutAfter(MIN)", IllegalArgumentException.class, () -> b.cutAfter(Integer.MIN_VALUE));
        DUE.is("forceAll(): what was said stands", -1, b::forceAll);
        DUE.is("FORCED", 3, () -> b.log(1));
        DUE.fails("cutAfter(-2), closed", IllegalArgumentException.class, () -> b.cutAfter(-2));
    }

    private static void nothingMoreIsSaidBehindAFailure() {
        LogBook b = new LogBook();
        b.append(0, 0, -1, 0);
        b.cutAfter(2);
        b.forceAll();
        DUE.is("open() behind a failure", 3, b::open);
        b.append(0, 0, -1, 0);
        b.cutAfter(2);
        b.cut();
        b.open();
        b.append(0, 0, -1, 0);
        DUE.is("forceAll() behind cut", 5, b::forceAll);
    }

    private static void cutNow() {
        LogBook b = new LogBook();
        b.append(0, 0, -1, 0);
        b.forceAll();
        b.append(0, 1, -1, 0);
        DUE.yes("cut()", b.cut());
        DUE.no("isOpen()", b.isOpen());
        DUE.logIs(b, 0, 5, 5);
        DUE.is("open()", 0, b::open);
        DUE.yes("isOpen()", b.isOpen());
        DUE.is("count()", 1, b::count);
        DUE.is("lastOf(1)", -1, () -> b.lastOf(1));
        LogBook empty = new LogBook();
        DUE.yes("cut() of an empty book", empty.cut());
        DUE.is("open() of an empty book", 0, empty::open);
        DUE.is("first()", -1, empty::first);
        DUE.is("append", 0, () -> empty.append(0, 0, -1, 0));
    }

    /** Power does not fail in a closed book, so what was said of failing stands. */
    private static void cutOfAClosedBook() {
        LogBook b = new LogBook();
        b.append(0, 0, -1, 0);
        b.cutAfter(1);
        b.forceAll();
        b.cutAfter(1);
        DUE.no("cut(), closed", b.cut());
        DUE.no("isOpen()", b.isOpen());
        DUE.is("open()", -1, b::open);
        DUE.logIs(b, 0, 2, 2);
    }

    private static void fillUpFromEveryWord() {
        for (int n = 0; n < 4; n++) {
            for (int there = 1; there < n + 5; there++) {
                LogBook b = new LogBook();
                b.append(7, 5, -1, 1);
                b.forceAll();
                b.fill(9, 9);
                b.append(6, 5, 3, n);
                b.cutAfter(there);
                DUE.is("forceAll()", -1, b::forceAll);
                DUE.is("open() with " + there + " of " + (n + 5), n + 5 - there, b::open);
                DUE.logIs(b, 0, 6 + n + 5, 6 + n + 5);
                DUE.is("last()", 0, b::last);
                DUE.is("count()", 1, b::count);
                b.cut();
                DUE.is("open() again", 0, b::open);
                DUE.is("count() again", 1, b::count);
                DUE.is("append behind", 6 + n + 5, () -> b.append(0, 5, -1, 0));
                DUE.is("before it", 0, () -> b.before(b.last()));
            }
        }
    }

    private static void failureInEveryWordOfOpen() {
        for (int words = 0; words < 12; words++) {
            LogBook b = new LogBook();
            b.append(0, 0, -1, 5);
            b.cutAfter(2);
            b.forceAll();
            b.cutAfter(words);
            boolean fails = words < 8;
            int there = fails ? 2 + words : 10;
            DUE.is("open() with " + words, fails ? -1 : 8, b::open);
            DUE.is("isOpen()", fails ? 0 : 1, () -> b.isOpen() ? 1 : 0);
            DUE.logIs(b, 0, there, there);
            if (fails) {
                DUE.is("open() again", 10 - there, b::open);
            }
            DUE.is("count()", 0, b::count);
            DUE.logIs(b, 0, 10, 10);
        }
    }

    private static void openSpendsWords() {
        LogBook b = new LogBook();
        b.append(0, 0, -1, 0);
        b.cutAfter(2);
        b.forceAll();
        b.cutAfter(5);
        DUE.is("open()", 3, b::open);
        b.append(0, 0, -1, 0);
        DUE.is("forceAll()", -1, b::forceAll);
        DUE.logIs(b, 0, 7, 7);
    }

    private static void openOfAnOpenBook() {
        LogBook b = new LogBook();
        b.append(0, 0, -1, 0);
        DUE.fails("open(), open", IllegalStateException.class, b::open);
        DUE.is("END", 5, () -> b.log(2));
        DUE.yes("isOpen()", b.isOpen());
        b.cut();
        b.open();
        DUE.fails("open() again", IllegalStateException.class, b::open);
    }
}
