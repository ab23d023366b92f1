import java.util.NoSuchElementException;

/**
 * The bounds that the document names, promise by promise: what is taken last and what is refused
 * first, and what is answered when there is nothing. Room has a test of its own (RoomTest), as has
 * what a refused call leaves behind (RefusedTest).
 */
public final class BoundsTest {
    private static final Due DUE = new Due();

    public static void main(String[] args) {
        kindsOwnersAndLengths();
        everyLength();
        linkInEveryBook();
        forceOnBothSidesOfPower();
        forceOfFirstAndLast();
        forceAllOfNothing();
        giveBackUpToForced();
        firstIsThatOfARecordOrEnd();
        firstAndLastOfNothing();
        lastForcedAtEachRecord();
        nextAndBeforeAtTheEnds();
        lastOfEachOwner();
        partsOfARecord();
        wordsOfARecord();
        backUpToK();
        backByEachKind();
        countFromNothing();
        logInEveryState();
        isOpenInEveryState();
        DUE.end();
    }

    private static void refusedAppend(int kind, int owner, int link, int n) {
        LogBook b = Books.three();
        DUE.fails("append(" + kind + ", " + owner + ", " + link + ", " + n + ")",
                IllegalArgumentException.class, () -> b.append(kind, owner, link, n));
        DUE.logIs(b, 0, 0, 20);
    }

    private static void takenAppend(int kind, int owner, int link, int n) {
        LogBook b = Books.three();
        DUE.is("append(" + kind + ", " + owner + ", " + link + ", " + n + ")", 20,
                () -> b.append(kind, owner, link, n));
        int[] parts = {kind, owner, owner == 0 ? 13 : 8, link, n};
        for (int i = 0; i < 5; i++) {
            int what = i;
            DUE.is("of(20, " + i + ")", parts[i], () -> b.of(20, what));
        }
        DUE.logIs(b, 0, 0, 25 + n);
    }

    private static void kindsOwnersAndLengths() {
        takenAppend(0, 0, -1, 0);
        refusedAppend(-1, 0, -1, 0);
        takenAppend(15, 0, -1, 0);
        refusedAppend(16, 0, -1, 0);
        refusedAppend(0, -1, -1, 0);
        takenAppend(0, 7, -1, 0);
        refusedAppend(0, 8, -1, 0);
        refusedAppend(0, 0, -1, -1);
        takenAppend(0, 0, -1, 200);
        refusedAppend(0, 0, -1, 201);
        refusedAppend(0, 0, -2, 0);
        takenAppend(0, 0, 0, 0);
        takenAppend(0, 0, 19, 0);
        refusedAppend(0, 0, 20, 0);
        takenAppend(15, 7, 19, 200);
        refusedAppend(16, 8, 20, 201);
    }

    private static void everyLength() {
        LogBook b = new LogBook();
        b.fill(1, 1);
        int end = 0;
        for (int i = 0; i <= 200; i++) {
            int n = i;
            int s = end;
            DUE.is("append n " + n, s, () -> b.append(0, 0, -1, n));
            if (n > 0) {
                DUE.is("its last word", n, () -> b.word(s, n - 1));
            }
            end += n + 5;
        }
        int all = end;
        DUE.is("END", all, () -> b.log(2));
        DUE.is("forceAll()", all, b::forceAll);
    }

    private static void linkInEveryBook() {
        LogBook empty = new LogBook();
        DUE.fails("link 0 in an empty book", IllegalArgumentException.class, () -> empty.append(0, 0, 0, 0));
        DUE.is("link NONE in an empty book", 0, () -> empty.append(0, 0, -1, 0));

        LogBook lost = Books.three();
        lost.force(8);
        lost.cut();
        lost.open();
        DUE.fails("link 13, lost", IllegalArgumentException.class, () -> lost.append(0, 0, 13, 0));
        DUE.is("link 12", 13, () -> lost.append(0, 0, 12, 0));

        LogBook given = Books.three();
        given.forceAll();
        given.giveBack(13);
        DUE.fails("link -2, FIRST being 13", IllegalArgumentException.class, () -> given.append(0, 0, -2, 0));
        DUE.is("link 0, given back", 20, () -> given.append(0, 0, 0, 0));

        LogBook filled = Books.begun(3, 1);
        filled.open();
        DUE.fails("link END behind a void record", IllegalArgumentException.class, () -> filled.append(0, 0, 14, 0));
        DUE.is("link into a void record", 14, () -> filled.append(0, 0, 13, 0));
    }

    /** Thirteen words are to be written: twelve are too few, thirteen just enough. */
    private static void forceOnBothSidesOfPower() {
        for (int i = 0; i < 16; i++) {
            int words = i;
            LogBook b = Books.three();
            b.cutAfter(words);
            boolean fails = words < 13;
            DUE.is("force(8) with " + words, fails ? -1 : 13, () -> b.force(8));
            DUE.logIs(b, 0, fails ? words : 13, fails ? words : 20);
            DUE.is("isOpen()", fails ? 0 : 1, () -> b.isOpen() ? 1 : 0);
            if (!fails) {
                DUE.is("force(13) with the rest", -1, () -> b.force(13));
                DUE.is("FORCED", words, () -> b.log(1));
            }
        }
    }

    private static void forceOfFirstAndLast() {
        LogBook b = Books.three();
        DUE.fails("force(-1)", NoSuchElementException.class, () -> b.force(-1));
        DUE.is("force of the first", 8, () -> b.force(0));
        DUE.is("force of the last", 12, () -> b.force(13));
        DUE.is("force of the last again", 0, () -> b.force(13));
        DUE.fails("force(END)", NoSuchElementException.class, () -> b.force(20));
        b.giveBack(8);
        DUE.fails("force of what is given back", NoSuchElementException.class, () -> b.force(0));
        DUE.is("force of the first that is left", 0, () -> b.force(8));
    }

    private static void forceAllOfNothing() {
        LogBook b = new LogBook();
        b.cutAfter(0);
        DUE.is("forceAll() of an empty book, no word left", 0, b::forceAll);
        DUE.yes("isOpen()", b.isOpen());
        b.append(0, 0, -1, 0);
        DUE.is("forceAll() of one record, no word left", -1, b::forceAll);
        DUE.logIs(b, 0, 0, 0);
        DUE.is("open()", 0, b::open);
        DUE.is("append", 0, () -> b.append(0, 0, -1, 0));
    }

    private static void giveBackUpToForced() {
        LogBook b = Books.three();
        DUE.fails("giveBack of the first, unforced", IllegalStateException.class, () -> b.giveBack(0));
        b.force(8);
        DUE.is("giveBack of the first", 0, () -> b.giveBack(0));
        DUE.fails("giveBack of the first unforced", IllegalStateException.class, () -> b.giveBack(13));
        DUE.is("giveBack of the last forced", 8, () -> b.giveBack(8));
        DUE.is("giveBack of the last forced again", 0, () -> b.giveBack(8));
        DUE.fails("giveBack of what is given back", NoSuchElementException.class, () -> b.giveBack(0));
        b.forceAll();
        DUE.is("giveBack of the last", 5, () -> b.giveBack(13));
        DUE.fails("giveBack(END)", NoSuchElementException.class, () -> b.giveBack(20));
        DUE.is("count()", 1, b::count);
        DUE.logIs(b, 13, 20, 20);
    }

    private static void firstIsThatOfARecordOrEnd() {
        LogBook b = new LogBook();
        DUE.logIs(b, 0, 0, 0);
        b.append(0, 0, -1, 0);
        DUE.logIs(b, 0, 0, 5);
        b.cut();
        DUE.logIs(b, 0, 0, 0);
        b.open();
        b.append(0, 0, -1, 0);
        b.cutAfter(1);
        b.forceAll();
        b.open();
        DUE.logIs(b, 0, 5, 5);
        b.append(0, 0, -1, 0);
        b.forceAll();
        DUE.is("FIRST, a void record's", 0, () -> b.log(0));
        b.giveBack(5);
        DUE.logIs(b, 5, 10, 10);
        b.cut();
        b.open();
        DUE.logIs(b, 5, 10, 10);
    }

    private static void firstAndLastOfNothing() {
        LogBook b = new LogBook();
        DUE.is("first(), empty", -1, b::first);
        DUE.is("last(), empty", -1, b::last);
        b.append(0, 0, -1, 0);
        DUE.is("first() of one", 0, b::first);
        DUE.is("last() of one", 0, b::last);
        b.cutAfter(4);
        b.forceAll();
        b.open();
        DUE.is("first(), void alone", -1, b::first);
        DUE.is("last(), void alone", -1, b::last);
        b.append(0, 0, -1, 0);
        DUE.is("first() behind void", 5, b::first);
        DUE.is("last() behind void", 5, b::last);
        b.force(5);
        b.append(0, 0, -1, 0);
        b.cutAfter(4);
        b.forceAll();
        b.open();
        DUE.is("first() before void", 5, b::first);
        DUE.is("last() before void", 5, b::last);
    }

    private static void lastForcedAtEachRecord() {
        LogBook b = Books.three();
        int[] serials = {0, 8, 13};
        DUE.is("lastForced() of none", -1, b::lastForced);
        for (int s : serials) {
            b.force(s);
            DUE.is("lastForced() behind force(" + s + ")", s, b::lastForced);
        }
        b.append(0, 0, -1, 0);
        DUE.is("lastForced() before an unforced one", 13, b::lastForced);
        b.giveBack(13);
        DUE.is("lastForced(), the only one left", 13, b::lastForced);

        LogBook filled = new LogBook();
        filled.append(0, 0, -1, 0);
        filled.cutAfter(4);
        filled.forceAll();
        filled.open();
        filled.append(0, 0, -1, 0);
        DUE.is("lastForced(), void alone forced", -1, filled::lastForced);
    }

    private static void nextAndBeforeAtTheEnds() {
        LogBook b = Books.begun(3, 1);
        b.open();
        DUE.is("next(0), void behind", -1, () -> b.next(0));
        DUE.is("before(0), nothing before", -1, () -> b.before(0));
        b.append(1, 1, -1, 0);
        DUE.is("next(0), over void", 14, () -> b.next(0));
        DUE.is("before(14), over void", 0, () -> b.before(14));
        DUE.is("next(14), nothing behind", -1, () -> b.next(14));
        b.forceAll();
        b.giveBack(14);
        DUE.is("before(14), given back before", -1, () -> b.before(14));
        DUE.fails("next(0), given back", NoSuchElementException.class, () -> b.next(0));
        DUE.fails("before(END)", NoSuchElementException.class, () -> b.before(19));

        LogBook voidFirst = Books.three();
        voidFirst.cutAfter(7);
        voidFirst.forceAll();
        voidFirst.open();
        voidFirst.append(0, 0, -1, 0);
        DUE.is("before(8), void alone before", -1, () -> voidFirst.before(8));
    }

    private static void lastOfEachOwner() {
        LogBook b = new LogBook();
        DUE.fails("lastOf(-1)", IllegalArgumentException.class, () -> b.lastOf(-1));
        DUE.fails("lastOf(8)", IllegalArgumentException.class, () -> b.lastOf(8));
        for (int i = 0; i < 8; i++) {
            int owner = i;
            DUE.is("lastOf(" + i + ") before", -1, () -> b.lastOf(owner));
            b.append(0, owner, -1, 0);
            DUE.is("lastOf(" + i + ")", 5 * owner, () -> b.lastOf(owner));
        }
        b.force(30);
        b.giveBack(5);
        DUE.is("lastOf(0), given back", -1, () -> b.lastOf(0));
        DUE.is("lastOf(1), the first left", 5, () -> b.lastOf(1));
        b.cut();
        b.open();
        DUE.is("lastOf(6), forced", 30, () -> b.lastOf(6));
        DUE.is("lastOf(7), lost", -1, () -> b.lastOf(7));
        b.append(0, 6, -1, 0);
        b.cutAfter(1);
        b.forceAll();
        b.open();
        DUE.is("lastOf(6), the later one void", 30, () -> b.lastOf(6));
    }

    private static void partsOfARecord() {
        LogBook b = Books.three();
        DUE.fails("of(13, -1)", IndexOutOfBoundsException.class, () -> b.of(13, -1));
        DUE.is("of(13, 0)", 3, () -> b.of(13, 0));
        DUE.is("of(13, 4)", 2, () -> b.of(13, 4));
        DUE.fails("of(13, 5)", IndexOutOfBoundsException.class, () -> b.of(13, 5));
        DUE.fails("of(12, 5)", NoSuchElementException.class, () -> b.of(12, 5));
        DUE.is("of(0, 2) of an owner's first", -1, () -> b.of(0, 2));
        DUE.is("of(13, 2)", 0, () -> b.of(13, 2));
        b.forceAll();
        b.giveBack(8);
        DUE.is("of(13, 2), given back but as written", 0, () -> b.of(13, 2));
        DUE.is("append", 20, () -> b.append(0, 0, -1, 0));
        DUE.is("of(20, 2)", 13, () -> b.of(20, 2));
    }

    private static void wordsOfARecord() {
        for (int n : new int[] {0, 1, 2, 199, 200}) {
            LogBook b = new LogBook();
            b.fill(40, 2);
            b.append(0, 0, -1, n);
            b.append(0, 0, -1, 200);
            DUE.fails("word(0, -1), n " + n, IndexOutOfBoundsException.class, () -> b.word(0, -1));
            for (int i = 0; i < n; i++) {
                int at = i;
                DUE.is("word(0, " + i + "), n " + n, 40 + 2 * i, () -> b.word(0, at));
            }
            DUE.fails("word(0, " + n + ")", IndexOutOfBoundsException.class, () -> b.word(0, n));
            DUE.fails("word(1, 0), no record", NoSuchElementException.class, () -> b.word(1, 0));
            DUE.fails("word(1, -1), no record", NoSuchElementException.class, () -> b.word(1, -1));
        }
    }

    /** Three records of owner 7 between others: k is 0 .. 2. */
    private static void backUpToK() {
        LogBook b = new LogBook();
        for (int i = 0; i < 3; i++) {
            b.append(i, 7, -1, 0);
            b.append(i, 0, -1, 0);
        }
        DUE.fails("back(7, -1, -1)", IllegalArgumentException.class, () -> b.back(7, -1, -1));
        DUE.is("back(7, -1, 0)", 20, () -> b.back(7, -1, 0));
        DUE.is("back(7, -1, 2)", 0, () -> b.back(7, -1, 2));
        DUE.is("back(7, -1, 3)", -1, () -> b.back(7, -1, 3));
        DUE.is("back(7, -1, MAX)", -1, () -> b.back(7, -1, Integer.MAX_VALUE));
        DUE.is("back(0, -1, 2)", 5, () -> b.back(0, -1, 2));
        DUE.is("back(1, -1, 0), an owner of nothing", -1, () -> b.back(1, -1, 0));
        DUE.fails("back(-1, -1, 0)", IllegalArgumentException.class, () -> b.back(-1, -1, 0));
        DUE.fails("back(8, -1, 0)", IllegalArgumentException.class, () -> b.back(8, -1, 0));
        b.forceAll();
        b.giveBack(5);
        DUE.is("back(7, -1, 1)", 10, () -> b.back(7, -1, 1));
        DUE.is("back(7, -1, 2), given back", -1, () -> b.back(7, -1, 2));
        DUE.is("back(0, -1, 2), the first left", 5, () -> b.back(0, -1, 2));
    }

    private static void backByEachKind() {
        LogBook b = new LogBook();
        for (int kind = 0; kind < 16; kind++) {
            b.append(kind, 0, -1, 0);
        }
        for (int i = 0; i < 32; i++) {
            int kind = i;
            DUE.is("back(0, 1 << " + i + ", 0)", kind < 16 ? 5 * kind : -1, () -> b.back(0, 1 << kind, 0));
            DUE.is("back(0, 1 << " + i + ", 1)", -1, () -> b.back(0, 1 << kind, 1));
            int want = kind == 15 ? 70 : 75;
            DUE.is("back(0, all but " + i + ", 0)", want, () -> b.back(0, ~(1 << kind), 0));
        }
        DUE.is("back(0, 0, 0)", -1, () -> b.back(0, 0, 0));
        DUE.is("back(0, 65535, 15)", 0, () -> b.back(0, 65535, 15));
        DUE.is("back(0, 65535, 16)", -1, () -> b.back(0, 65535, 16));
    }

    private static void countFromNothing() {
        LogBook b = new LogBook();
        for (int i = 0; i < 4; i++) {
            int records = i;
            DUE.is("count()", records, b::count);
            b.append(0, i, -1, i);
        }
        b.force(11);
        b.giveBack(5);
        DUE.is("count() behind giveBack", 3, b::count);
        b.cutAfter(7);
        DUE.is("forceAll()", -1, b::forceAll);
        b.open();
        DUE.is("count() without the void one", 2, b::count);
    }

    private static void logInEveryState() {
        LogBook open = Books.three();
        LogBook closed = Books.begun(3, 2);
        for (LogBook b : new LogBook[] {open, closed}) {
            DUE.fails("log(-1)", IndexOutOfBoundsException.class, () -> b.log(-1));
            DUE.fails("log(3)", IndexOutOfBoundsException.class, () -> b.log(3));
        }
        DUE.logIs(open, 0, 0, 20);
        DUE.logIs(closed, 0, 8, 8);
    }

    private static void isOpenInEveryState() {
        LogBook b = new LogBook();
        DUE.yes("isOpen(), new", b.isOpen());
        DUE.yes("cut()", b.cut());
        DUE.no("isOpen() behind cut", b.isOpen());
        DUE.no("cut() again", b.cut());
        DUE.no("isOpen() behind cut again", b.isOpen());
        b.open();
        DUE.yes("isOpen() behind open", b.isOpen());
        DUE.fails("open() of an open book", IllegalStateException.class, b::open);
        DUE.yes("isOpen() behind a refused open", b.isOpen());
        b.append(0, 0, -1, 0);
        b.cutAfter(2);
        b.force(0);
        DUE.no("isOpen() behind a force that failed", b.isOpen());
        b.cutAfter(2);
        DUE.is("open() with a word too few", -1, b::open);
        DUE.no("isOpen() behind an open that failed", b.isOpen());
        b.cutAfter(1);
        DUE.is("open() with just enough", 1, b::open);
        DUE.yes("isOpen() behind it", b.isOpen());
    }
}
