import java.util.NoSuchElementException;

/** Promises 18 to 22: log, cutAfter, cut, open and isOpen. */
public final class PowerTest {
    private static final Due DUE = new Due();

    public static void main(String[] args) {
        logOfOpenAndClosedBooks();
        wrongWhich();
        cutAfterCountsOverCalls();
        cutAfterReplacesWhatWasSaid();
        wrongCutAfter();
        nothingMoreIsSaidBehindAFailure();
        cutNow();
        cutOfAClosedBook();
        fillUpFromEveryWord();
        failureInEveryWordOfOpen();
        openSpendsWords();
        openOfAnOpenBook();
        openWithNothingBegun();
        openWordByWord();
        longestAndShortestBegun();
        everyLossOfPower();
        cutAfterInAClosedBook();
        severalWholeRecordsBeforeTheBegunOne();
        DUE.end();
    }

    private static void logOfOpenAndClosedBooks() {
        LogBook b = new LogBook();
        b.append(0, 0, -1, 1);
        b.append(0, 0, -1, 2);
        b.append(0, 0, -1, 3);
        b.force(6);
        b.giveBack(6);
        DUE.logIs(b, 6, 13, 21);
        b.cut();
        DUE.logIs(b, 6, 13, 13);
    }

    private static void wrongWhich() {
        LogBook b = new LogBook();
        for (int which : new int[] {-1, 3, Integer.MIN_VALUE, Integer.MAX_VALUE}) {
            DUE.fails("log(" + which + ")", IndexOutOfBoundsException.class, () -> b.log(which));
        }
        b.cut();
        DUE.fails("log(3), closed", IndexOutOfBoundsException.class, () -> b.log(3));
    }

    private static void cutAfterCountsOverCalls() {
        LogBook b = new LogBook();
        b.cutAfter(12);
        for (int i = 0; i < 3; i++) {
            b.append(0, 0, -1, 0);
        }
        DUE.is("force(0)", 5, () -> b.force(0));
        DUE.is("force(5)", 5, () -> b.force(5));
        DUE.is("force(10)", -1, () -> b.force(10));
        DUE.logIs(b, 0, 12, 12);
    }

    private static void cutAfterReplacesWhatWasSaid() {
        LogBook b = new LogBook();
        b.append(0, 0, -1, 0);
        b.cutAfter(0);
        b.cutAfter(-1);
        DUE.is("forceAll(), never failing", 5, b::forceAll);
        b.append(0, 0, -1, 0);
        b.cutAfter(100);
        b.cutAfter(4);
        DUE.is("forceAll()", -1, b::forceAll);
        LogBook c = new LogBook();
        c.append(0, 0, -1, 0);
        c.cutAfter(4);
        c.cutAfter(5);
        DUE.is("forceAll(), enough", 5, c::forceAll);
        DUE.yes("isOpen()", c.isOpen());
        LogBook d = new LogBook();
        d.append(0, 0, -1, 0);
        d.cutAfter(Integer.MAX_VALUE);
        DUE.is("forceAll(), far enough", 5, d::forceAll);
    }

    private static void wrongCutAfter() {
        LogBook b = new LogBook();
        b.append(0, 0, -1, 0);
        b.cutAfter(3);
        DUE.fails("cutAfter(-2)", IllegalArgumentException.class, () -> b.cutAfter(-2));
        DUE.fails("cutAfter(MIN)", IllegalArgumentException.class, () -> b.cutAfter(Integer.MIN_VALUE));
        DUE.is("forceAll(): what was said stands", -1, b::forceAll);
        DUE.is("FORCED", 3, () -> b.log(1));
        DUE.fails("cutAfter(-2), closed", IllegalArgumentException.class, () -> b.cutAfter(-2));
    }

    private static void nothingMoreIsSaidBehindAFailure() {
        LogBook b = new LogBook();
        b.append(0, 0, -1, 0);
        b.cutAfter(2);
        b.forceAll();
        DUE.is("open() behind a failure", 3, b::open);
        b.append(0, 0, -1, 0);
        b.cutAfter(2);
        b.cut();
        b.open();
        b.append(0, 0, -1, 0);
        DUE.is("forceAll() behind cut", 5, b::forceAll);
    }

    private static void cutNow() {
        LogBook b = new LogBook();
        b.append(0, 0, -1, 0);
        b.forceAll();
        b.append(0, 1, -1, 0);
        DUE.yes("cut()", b.cut());
        DUE.no("isOpen()", b.isOpen());
        DUE.logIs(b, 0, 5, 5);
        DUE.is("open()", 0, b::open);
        DUE.yes("isOpen()", b.isOpen());
        DUE.is("count()", 1, b::count);
        DUE.is("lastOf(1)", -1, () -> b.lastOf(1));
        LogBook empty = new LogBook();
        DUE.yes("cut() of an empty book", empty.cut());
        DUE.is("open() of an empty book", 0, empty::open);
        DUE.is("first()", -1, empty::first);
        DUE.is("append", 0, () -> empty.append(0, 0, -1, 0));
    }

    /** Power does not fail in a closed book, so what was said of failing stands. */
    private static void cutOfAClosedBook() {
        LogBook b = new LogBook();
        b.append(0, 0, -1, 0);
        b.cutAfter(1);
        b.forceAll();
        b.cutAfter(1);
        DUE.no("cut(), closed", b.cut());
        DUE.no("isOpen()", b.isOpen());
        DUE.is("open()", -1, b::open);
        DUE.logIs(b, 0, 2, 2);
    }

    private static void fillUpFromEveryWord() {
        for (int n = 0; n < 4; n++) {
            for (int there = 1; there < n + 5; there++) {
                fillUp(n, there);
            }
        }
    }

    private static void fillUp(int n, int there) {
        LogBook b = Books.begun(n, there);
        int end = 6 + n + 5;
        DUE.logIs(b, 0, 6 + there, 6 + there);
        DUE.is("open() with " + there + " of " + (n + 5), n + 5 - there, b::open);
        DUE.logIs(b, 0, end, end);
        DUE.is("last()", 0, b::last);
        DUE.is("lastForced()", 0, b::lastForced);
        DUE.is("count()", 1, b::count);
        b.cut();
        DUE.is("open() again", 0, b::open);
        DUE.is("count() again", 1, b::count);
        DUE.is("append behind", end, () -> b.append(0, 5, -1, 0));
        DUE.is("before it", 0, () -> b.before(end));
        DUE.is("the one before of its owner", 0, () -> b.of(end, 2));
    }

    private static void failureInEveryWordOfOpen() {
        for (int words = 0; words < 12; words++) {
            LogBook b = new LogBook();
            b.append(0, 0, -1, 5);
            b.cutAfter(2);
            b.forceAll();
            b.cutAfter(words);
            boolean fails = words < 8;
            int there = fails ? 2 + words : 10;
            DUE.is("open() with " + words, fails ? -1 : 8, b::open);
            DUE.is("isOpen()", fails ? 0 : 1, () -> b.isOpen() ? 1 : 0);
            DUE.logIs(b, 0, there, there);
            if (fails) {
                DUE.is("open() again", 10 - there, b::open);
            }
            DUE.is("count()", 0, b::count);
            DUE.logIs(b, 0, 10, 10);
        }
    }

    private static void openSpendsWords() {
        LogBook b = new LogBook();
        b.append(0, 0, -1, 0);
        b.cutAfter(2);
        b.forceAll();
        b.cutAfter(5);
        DUE.is("open()", 3, b::open);
        b.append(0, 0, -1, 0);
        DUE.is("forceAll()", -1, b::forceAll);
        DUE.logIs(b, 0, 7, 7);
    }

    private static void openOfAnOpenBook() {
        LogBook b = new LogBook();
        b.append(0, 0, -1, 0);
        DUE.fails("open(), open", IllegalStateException.class, b::open);
        DUE.is("END", 5, () -> b.log(2));
        DUE.yes("isOpen()", b.isOpen());
        b.cut();
        b.open();
        DUE.fails("open() again", IllegalStateException.class, b::open);
    }

    /** None of its words there, or all of them: the record is not begun. */
    private static void openWithNothingBegun() {
        LogBook none = Books.begun(3, 0);
        DUE.logIs(none, 0, 6, 6);
        none.cutAfter(0);
        DUE.is("open() with none of its words and no word left", 0, none::open);
        DUE.yes("isOpen()", none.isOpen());
        none.append(0, 0, -1, 0);
        DUE.is("forceAll(): what was said stands", -1, none::forceAll);
        DUE.logIs(none, 0, 6, 6);

        LogBook all = Books.three();
        all.cutAfter(13);
        all.forceAll();
        all.cutAfter(0);
        DUE.is("open() with all of its words and no word left", 0, all::open);
        DUE.is("last()", 8, all::last);
        DUE.is("count()", 2, all::count);
    }

    private static void openWordByWord() {
        LogBook b = Books.begun(3, 1);
        for (int there = 1; there < 8; there++) {
            DUE.logIs(b, 0, 6 + there, 6 + there);
            b.cutAfter(1);
            boolean last = there == 7;
            DUE.is("open() with one word", last ? 1 : -1, b::open);
            DUE.is("isOpen()", last ? 1 : 0, () -> b.isOpen() ? 1 : 0);
        }
        DUE.logIs(b, 0, 14, 14);
        DUE.is("count()", 1, b::count);
        DUE.is("append", 14, () -> b.append(0, 5, 6, 0));
        DUE.is("before(14)", 0, () -> b.before(14));
        DUE.is("back(5, -1, 1), linked to void", -1, () -> b.back(5, -1, 1));
        DUE.is("force(14): the one word was spent by open", -1, () -> b.force(14));
        DUE.logIs(b, 0, 14, 14);
    }

    private static void longestAndShortestBegun() {
        for (int there = 1; there < 205; there++) {
            fillUp(200, there);
        }
        fillUp(0, 1);
        fillUp(0, 4);
    }

    /** By cut, by force, by forceAll and by open: each time all that is not forced is gone. */
    private static void everyLossOfPower() {
        for (int i = 0; i < 4; i++) {
            LogBook b = Books.three();
            b.force(0);
            b.cutAfter(i == 0 ? 3 : 0);
            int way = i;
            switch (way) {
                case 0: DUE.yes("cut()", b.cut()); break;
                case 1: DUE.is("force(13)", -1, () -> b.force(13)); break;
                case 2: DUE.is("forceAll()", -1, b::forceAll); break;
                default:
                    b.cutAfter(1);
                    b.forceAll();
                    b.cutAfter(0);
                    DUE.is("open()", -1, b::open);
                    break;
            }
            int forced = way == 3 ? 9 : 8;
            int end = way == 3 ? 13 : 8;
            DUE.no("isOpen()", b.isOpen());
            DUE.logIs(b, 0, forced, forced);
            DUE.fails("count(), closed", IllegalStateException.class, b::count);
            DUE.is("open(), nothing said of failing", end - forced, b::open);
            DUE.is("count()", 1, b::count);
            DUE.is("append of the buffer", end, () -> b.append(0, 0, -1, 200));
            for (int at = 0; at < 200; at += 199) {
                int word = at;
                DUE.is("word " + at + " of the buffer", 0, () -> b.word(end, word));
            }
            DUE.is("forceAll(), nothing said of failing", 205, b::forceAll);
        }
    }

    private static void cutAfterInAClosedBook() {
        LogBook b = Books.begun(3, 2);
        DUE.fails("cutAfter(-2)", IllegalArgumentException.class, () -> b.cutAfter(-2));
        b.cutAfter(0);
        DUE.is("open() with no word", -1, b::open);
        DUE.logIs(b, 0, 8, 8);
        b.cutAfter(0);
        b.cutAfter(-1);
        DUE.is("open(), never failing", 6, b::open);

        LogBook c = Books.begun(3, 2);
        c.cutAfter(Integer.MAX_VALUE);
        DUE.is("open(), far from failing", 6, c::open);
    }

    private static void severalWholeRecordsBeforeTheBegunOne() {
        for (int i = 14; i < 20; i++) {
            int there = i;
            LogBook b = Books.three();
            b.cutAfter(there);
            DUE.is("force(13) with " + there, -1, () -> b.force(13));
            DUE.is("open()", 20 - there, b::open);
            DUE.logIs(b, 0, 20, 20);
            DUE.is("last()", 8, b::last);
            DUE.is("count()", 2, b::count);
            DUE.is("lastOf(0)", 0, () -> b.lastOf(0));
            DUE.fails("of(13, 0)", NoSuchElementException.class, () -> b.of(13, 0));
        }
    }
}
