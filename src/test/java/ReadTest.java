import java.util.NoSuchElementException;

/** Promises 8, 9, 11 to 15 and 17: first, last, next, before, lastOf, of, word and count. */
public final class ReadTest {
    private static final Due DUE = new Due();
    private static final int[] NO_SERIALS = {-1, 1, 4, 5, 7, 9, 12, 14, 19, 20, 65536, 65544, Integer.MIN_VALUE, Integer.MAX_VALUE};

    public static void main(String[] args) {
        forwardAndBackward();
        fieldsAndWords();
        contentThatLooksLikeARecord();
        noSuchRecord();
        wrongIndexes();
        owners();
        voidRecordsArePassedOver();
        onlyVoidRecords();
        severalVoidRecordsInARow();
        closedBook();
        DUE.end();
    }

    private static void forwardAndBackward() {
        LogBook b = Books.three();
        DUE.is("first()", 0, b::first);
        DUE.is("last()", 13, b::last);
        DUE.is("count()", 3, b::count);
        DUE.is("next(0)", 8, () -> b.next(0));
        DUE.is("next(8)", 13, () -> b.next(8));
        DUE.is("next(13)", -1, () -> b.next(13));
        DUE.is("before(13)", 8, () -> b.before(13));
        DUE.is("before(8)", 0, () -> b.before(8));
        DUE.is("before(0)", -1, () -> b.before(0));
    }

    private static void fieldsAndWords() {
        LogBook b = Books.three();
        int[][] want = {{0, 1, 0, -1, -1, 3}, {8, 15, 7, -1, 6, 0}, {13, 3, 0, 0, 8, 2}};
        for (int[] row : want) {
            for (int what = 0; what < 5; what++) {
                int w = what;
                DUE.is("of(" + row[0] + ", " + what + ")", row[what + 1], () -> b.of(row[0], w));
            }
            for (int i = 0; i < row[5]; i++) {
                int at = i;
                DUE.is("word(" + row[0] + ", " + i + ")", 100 + i, () -> b.word(row[0], at));
            }
        }
    }

    private static void contentThatLooksLikeARecord() {
        LogBook b = new LogBook();
        b.set(0, 5);
        b.set(4, 5);
        b.set(5, -5);
        b.append(0, 0, -1, 6);
        b.append(0, 0, -1, 0);
        DUE.fails("next(4)", NoSuchElementException.class, () -> b.next(4));
        DUE.fails("of(4, 9)", NoSuchElementException.class, () -> b.of(4, 9));
        DUE.is("before(11)", 0, () -> b.before(11));
        DUE.is("count()", 2, b::count);
        DUE.is("word(0, 5)", -5, () -> b.word(0, 5));
    }

    private static void noSuchRecord() {
        LogBook b = Books.three();
        for (int s : NO_SERIALS) {
            DUE.fails("next(" + s + ")", NoSuchElementException.class, () -> b.next(s));
            DUE.fails("before(" + s + ")", NoSuchElementException.class, () -> b.before(s));
            DUE.fails("of(" + s + ", 0)", NoSuchElementException.class, () -> b.of(s, 0));
            DUE.fails("of(" + s + ", 5)", NoSuchElementException.class, () -> b.of(s, 5));
            DUE.fails("word(" + s + ", 0)", NoSuchElementException.class, () -> b.word(s, 0));
            DUE.fails("word(" + s + ", -1)", NoSuchElementException.class, () -> b.word(s, -1));
        }
    }

    private static void wrongIndexes() {
        LogBook b = Books.three();
        for (int what : new int[] {-1, 5, 6, Integer.MIN_VALUE, Integer.MAX_VALUE}) {
            DUE.fails("of(8, " + what + ")", IndexOutOfBoundsException.class, () -> b.of(8, what));
        }
        for (int i : new int[] {-1, 3, 4, Integer.MIN_VALUE, Integer.MAX_VALUE}) {
            DUE.fails("word(0, " + i + ")", IndexOutOfBoundsException.class, () -> b.word(0, i));
        }
        DUE.fails("word(8, 0) of no content", IndexOutOfBoundsException.class, () -> b.word(8, 0));
        DUE.fails("word(13, 2)", IndexOutOfBoundsException.class, () -> b.word(13, 2));
    }

    private static void owners() {
        LogBook b = Books.three();
        int[] want = {13, -1, -1, -1, -1, -1, -1, 8};
        for (int i = 0; i < 8; i++) {
            int owner = i;
            DUE.is("lastOf(" + i + ")", want[i], () -> b.lastOf(owner));
        }
        for (int owner : new int[] {-1, 8, Integer.MIN_VALUE, Integer.MAX_VALUE}) {
            DUE.fails("lastOf(" + owner + ")", IllegalArgumentException.class, () -> b.lastOf(owner));
        }
    }

    private static void voidRecordsArePassedOver() {
        LogBook b = Books.three();
        b.cutAfter(12);
        b.forceAll();
        b.open();
        DUE.is("last()", 0, b::last);
        DUE.is("next(0)", -1, () -> b.next(0));
        DUE.is("count()", 1, b::count);
        DUE.is("lastOf(7)", -1, () -> b.lastOf(7));
        DUE.fails("next(8), void", NoSuchElementException.class, () -> b.next(8));
        DUE.fails("before(8), void", NoSuchElementException.class, () -> b.before(8));
        DUE.fails("of(8, 0), void", NoSuchElementException.class, () -> b.of(8, 0));
        DUE.fails("word(8, 0), void", NoSuchElementException.class, () -> b.word(8, 0));
        DUE.fails("force(8), void", NoSuchElementException.class, () -> b.force(8));
        DUE.is("append", 13, () -> b.append(4, 7, 8, 1));
        DUE.is("of(13, 2)", -1, () -> b.of(13, 2));
        DUE.is("next(0)", 13, () -> b.next(0));
        DUE.is("before(13)", 0, () -> b.before(13));
        DUE.is("count()", 2, b::count);
        DUE.is("first()", 0, b::first);
    }

    private static void onlyVoidRecords() {
        LogBook b = Books.three();
        b.cutAfter(1);
        b.forceAll();
        b.open();
        DUE.is("first()", -1, b::first);
        DUE.is("last()", -1, b::last);
        DUE.is("count()", 0, b::count);
        DUE.is("lastOf(0)", -1, () -> b.lastOf(0));
        DUE.is("append", 8, () -> b.append(0, 0, -1, 0));
        DUE.is("first()", 8, b::first);
        DUE.is("before(8)", -1, () -> b.before(8));
    }

    private static void severalVoidRecordsInARow() {
        LogBook b = new LogBook();
        b.append(0, 0, -1, 0);
        b.forceAll();
        for (int i = 0; i < 5; i++) {
            b.append(0, 0, -1, i);
            b.cutAfter(1 + i % 4);
            b.forceAll();
            b.open();
        }
        int s = b.append(0, 0, -1, 0);
        DUE.is("serial behind five void ones", 40, () -> s);
        DUE.is("next(0)", 40, () -> b.next(0));
        DUE.is("before(40)", 0, () -> b.before(40));
        DUE.is("of(40, 2)", 0, () -> b.of(40, 2));
        DUE.is("count()", 2, b::count);
        DUE.is("lastForced()", 0, b::lastForced);
    }

    private static void closedBook() {
        LogBook b = Books.three();
        b.forceAll();
        b.cut();
        DUE.fails("first()", IllegalStateException.class, b::first);
        DUE.fails("last()", IllegalStateException.class, b::last);
        DUE.fails("count()", IllegalStateException.class, b::count);
        for (int s : new int[] {0, 1, -1}) {
            DUE.fails("next", IllegalStateException.class, () -> b.next(s));
            DUE.fails("before", IllegalStateException.class, () -> b.before(s));
            DUE.fails("of", IllegalStateException.class, () -> b.of(s, s));
            DUE.fails("word", IllegalStateException.class, () -> b.word(s, s));
            DUE.fails("lastOf", IllegalStateException.class, () -> b.lastOf(s));
        }
        DUE.fails("lastOf(8)", IllegalStateException.class, () -> b.lastOf(8));
    }
}
