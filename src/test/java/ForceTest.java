import java.util.NoSuchElementException;

/** Promises 5, 6, 7 and 10: force, forceAll, giveBack and lastForced. */
public final class ForceTest {
    private static final Due DUE = new Due();

    public static void main(String[] args) {
        forceUpToARecord();
        forceOfNoRecord();
        forceAll();
        failureWhileForcing();
        failureBetweenRecords();
        lastForcedPassesOverVoid();
        giveBack();
        giveBackOverVoid();
        giveBackOfWhatIsNotForced();
        giveBackWritesNothing();
        closedBook();
        DUE.end();
    }

    private static void forceUpToARecord() {
        LogBook b = Books.three();
        DUE.is("lastForced() of nothing forced", -1, b::lastForced);
        DUE.is("force(8)", 13, () -> b.force(8));
        DUE.logIs(b, 0, 13, 20);
        DUE.is("lastForced()", 8, b::lastForced);
        DUE.is("force(8) again", 0, () -> b.force(8));
        DUE.is("force(0), forced already", 0, () -> b.force(0));
        DUE.logIs(b, 0, 13, 20);
        DUE.is("force(13)", 7, () -> b.force(13));
        DUE.logIs(b, 0, 20, 20);
        DUE.is("lastForced(), all", 13, b::lastForced);
        b.append(0, 0, -1, 0);
        DUE.is("lastForced() behind append", 13, b::lastForced);
        DUE.is("last()", 20, b::last);
    }

    private static void forceOfNoRecord() {
        LogBook b = Books.three();
        for (int s : new int[] {-1, 1, 7, 9, 12, 19, 20, 21, Integer.MIN_VALUE, Integer.MAX_VALUE}) {
            DUE.fails("force(" + s + ")", NoSuchElementException.class, () -> b.force(s));
        }
        DUE.logIs(b, 0, 0, 20);
    }

    private static void forceAll() {
        LogBook b = Books.three();
        DUE.is("forceAll()", 20, b::forceAll);
        DUE.logIs(b, 0, 20, 20);
        DUE.is("forceAll() again", 0, b::forceAll);
        b.append(0, 0, -1, 4);
        DUE.is("forceAll() of one more", 9, b::forceAll);
        DUE.is("lastForced()", 20, b::lastForced);
    }

    private static void failureWhileForcing() {
        for (int n = 0; n < 25; n++) {
            LogBook b = Books.three();
            b.cutAfter(n);
            int words = n;
            boolean fails = n < 20;
            DUE.is("forceAll() with " + n + " words", fails ? -1 : 20, b::forceAll);
            DUE.is("isOpen()", fails ? 0 : 1, () -> b.isOpen() ? 1 : 0);
            DUE.logIs(b, 0, fails ? words : 20, fails ? words : 20);
        }
        LogBook b = Books.three();
        b.cutAfter(13);
        DUE.is("force(8) with 13 words", 13, () -> b.force(8));
        DUE.is("force(8) with no word left, nothing to write", 0, () -> b.force(8));
        DUE.yes("isOpen()", b.isOpen());
        DUE.is("force(13) with no word left", -1, () -> b.force(13));
        DUE.no("isOpen()", b.isOpen());
        DUE.logIs(b, 0, 13, 13);
    }

    private static void failureBetweenRecords() {
        LogBook b = Books.three();
        b.cutAfter(13);
        DUE.is("forceAll()", -1, b::forceAll);
        DUE.is("open(), nothing begun", 0, b::open);
        DUE.is("last()", 8, b::last);
        DUE.is("lastForced()", 8, b::lastForced);
        DUE.is("count()", 2, b::count);
        DUE.is("append", 13, () -> b.append(0, 0, -1, 0));
    }

    private static void lastForcedPassesOverVoid() {
        LogBook b = Books.three();
        b.cutAfter(9);
        b.forceAll();
        DUE.is("open()", 4, b::open);
        DUE.is("lastForced()", 0, b::lastForced);
        b.append(0, 0, -1, 0);
        DUE.is("lastForced() behind append", 0, b::lastForced);
        DUE.is("force(13)", 5, () -> b.force(13));
        DUE.is("lastForced() behind force", 13, b::lastForced);
    }

    private static void giveBack() {
        LogBook b = Books.three();
        b.forceAll();
        DUE.is("giveBack(0)", 0, () -> b.giveBack(0));
        DUE.is("giveBack(8)", 8, () -> b.giveBack(8));
        DUE.logIs(b, 8, 20, 20);
        DUE.is("first()", 8, b::first);
        DUE.is("before(8)", -1, () -> b.before(8));
        DUE.is("count()", 2, b::count);
        DUE.is("lastOf(0)", 13, () -> b.lastOf(0));
        DUE.is("of(13, 2), as written", 0, () -> b.of(13, 2));
        DUE.fails("giveBack(0), given back", NoSuchElementException.class, () -> b.giveBack(0));
        DUE.fails("next(0), given back", NoSuchElementException.class, () -> b.next(0));
        DUE.is("giveBack(13)", 5, () -> b.giveBack(13));
        DUE.is("lastOf(7), given back", -1, () -> b.lastOf(7));
        DUE.is("lastForced()", 13, b::lastForced);
        DUE.logIs(b, 13, 20, 20);
        b.cut();
        b.open();
        DUE.logIs(b, 13, 20, 20);
        DUE.is("first() behind cut", 13, b::first);
    }

    private static void giveBackOverVoid() {
        LogBook b = Books.three();
        b.cutAfter(10);
        b.forceAll();
        b.open();
        b.append(0, 0, -1, 0);
        b.forceAll();
        DUE.fails("giveBack(8), void", NoSuchElementException.class, () -> b.giveBack(8));
        DUE.is("giveBack(13)", 13, () -> b.giveBack(13));
        DUE.is("first()", 13, b::first);
        DUE.is("before(13)", -1, () -> b.before(13));
    }

    private static void giveBackOfWhatIsNotForced() {
        LogBook b = Books.three();
        b.force(0);
        DUE.fails("giveBack(8), not forced", IllegalStateException.class, () -> b.giveBack(8));
        DUE.fails("giveBack(13), not forced", IllegalStateException.class, () -> b.giveBack(13));
        for (int s : new int[] {-1, 1, 12, 14, 20, Integer.MIN_VALUE, Integer.MAX_VALUE}) {
            DUE.fails("giveBack(" + s + ")", NoSuchElementException.class, () -> b.giveBack(s));
        }
        DUE.logIs(b, 0, 8, 20);
        DUE.is("giveBack(0)", 0, () -> b.giveBack(0));
    }

    private static void giveBackWritesNothing() {
        LogBook b = Books.three();
        b.forceAll();
        b.cutAfter(0);
        DUE.is("giveBack(13)", 13, () -> b.giveBack(13));
        DUE.yes("isOpen()", b.isOpen());
        b.append(0, 0, -1, 0);
        DUE.is("forceAll()", -1, b::forceAll);
    }

    private static void closedBook() {
        LogBook b = Books.three();
        b.force(8);
        b.cut();
        DUE.fails("force(0)", IllegalStateException.class, () -> b.force(0));
        DUE.fails("force(1)", IllegalStateException.class, () -> b.force(1));
        DUE.fails("forceAll()", IllegalStateException.class, b::forceAll);
        DUE.fails("giveBack(0)", IllegalStateException.class, () -> b.giveBack(0));
        DUE.fails("giveBack(8)", IllegalStateException.class, () -> b.giveBack(8));
        DUE.fails("giveBack(1)", IllegalStateException.class, () -> b.giveBack(1));
        DUE.fails("lastForced()", IllegalStateException.class, b::lastForced);
        DUE.logIs(b, 0, 13, 13);
    }
}
