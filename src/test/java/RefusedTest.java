import java.util.ArrayList;
import java.util.List;
import java.util.NoSuchElementException;
import java.util.function.Consumer;
import java.util.function.Supplier;

/**
 * Terms: "A call that throws changes nothing; of several exceptions the one that stands first in
 * the throws clause is thrown." Each refused call is made in each state in which it is refused, on
 * a book of its own, which must then answer as one that was not asked.
 */
public final class RefusedTest {
    private static final Due DUE = new Due();
    private static final int MIN = Integer.MIN_VALUE;
    private static final int MAX = Integer.MAX_VALUE;
    private static final Class<IllegalStateException> STATE = IllegalStateException.class;
    private static final Class<IllegalArgumentException> ARGUMENT = IllegalArgumentException.class;
    private static final Class<IndexOutOfBoundsException> INDEX = IndexOutOfBoundsException.class;
    private static final Class<NoSuchElementException> ELEMENT = NoSuchElementException.class;

    private final String state;
    private final Supplier<LogBook> make;
    private final List<String> untouched;

    private RefusedTest(String state, Supplier<LogBook> make) {
        this.state = state;
        this.make = make;
        this.untouched = Trace.of(make.get());
    }

    public static void main(String[] args) {
        openBooks();
        openBooksWithVoidRecords();
        openBooksPowerToFail();
        fullBooks();
        pastTheRingsEnd();
        closedBooks();
        DUE.end();
    }

    private static void openBooks() {
        open("a new book", LogBook::new, 0, new int[] {0, 1, 5, 65536});
        open("nothing forced", Books::three, 20, new int[] {1, 7, 9, 12, 14, 19, 20, 21}, 0, 8, 13);
        open("one forced", () -> after(Books.three(), b -> b.force(0)), 20, new int[] {7, 20}, 8, 13);
        open("one given back", () -> after(Books.three(), b -> {
            b.forceAll();
            b.giveBack(8);
        }), 20, new int[] {0, 7, 9, 20});
        open("unforced ones lost", () -> after(Books.three(), b -> {
            b.force(0);
            b.cut();
            b.open();
        }), 8, new int[] {7, 8, 13});
    }

    private static void openBooksWithVoidRecords() {
        open("void alone", () -> after(Books.three(), b -> failAndOpen(b, 1)), 8, new int[] {0, 1, 7, 8});
        open("void at the end", () -> after(Books.three(), b -> failAndOpen(b, 12)), 13, new int[] {8, 12, 13});
        open("void between", () -> after(Books.three(), b -> {
            failAndOpen(b, 12);
            b.append(4, 7, 8, 1);
        }), 19, new int[] {8, 12, 14, 19}, 13);
    }

    private static void openBooksPowerToFail() {
        for (int words : new int[] {0, 1, 6, 7}) {
            open("power to fail after " + words, () -> after(Books.three(), b -> {
                b.force(8);
                b.cutAfter(words);
            }), 20, new int[] {12, 20}, 13);
        }
    }

    private static void fullBooks() {
        open("full", Books::full, 65536, new int[] {1, 65394, 65535, 65536}, 0, 65395);
        open("full and forced", () -> after(Books.full(), b -> b.forceAll()), 65536, new int[] {65535, 65536, 65541});
    }

    /** 65533 has its last eight words in places used before; 8 is where 65544 lies in a row of 65536. */
    private static void pastTheRingsEnd() {
        open("past 65536", () -> after(Books.nearTheRingsEnd(65533), b -> {
            b.append(9, 3, -1, 6);
            b.append(2, 3, 65533, 0);
        }), 65549, new int[] {-3, 0, 8, 61295, 65534, 65536, 65549}, 65533, 65544);
    }

    private static void closedBooks() {
        closed("a new book, cut", () -> after(new LogBook(), b -> b.cut()));
        closed("cut", () -> after(Books.three(), b -> {
            b.force(8);
            b.cut();
        }));
        closed("one word there", () -> Books.begun(3, 1));
        closed("one word lacking", () -> Books.begun(3, 7));
        closed("open failed", () -> after(Books.begun(10, 1), b -> {
            b.cutAfter(4);
            b.open();
        }));
        closed("open to fail", () -> after(Books.begun(3, 1), b -> b.cutAfter(2)));
        closed("power to fail when opened", () -> after(new LogBook(), b -> {
            b.cut();
            b.cutAfter(2);
        }));
        closed("full, one word lacking", () -> after(Books.full(), b -> {
            b.cutAfter(65535);
            b.forceAll();
        }));
        closed("past 65536", () -> after(Books.nearTheRingsEnd(65533), b -> {
            b.append(9, 3, -1, 6);
            b.cutAfter(5);
            b.forceAll();
        }));
    }

    private static LogBook after(LogBook b, Consumer<LogBook> calls) {
        calls.accept(b);
        return b;
    }

    private static void failAndOpen(LogBook b, int words) {
        b.cutAfter(words);
        b.forceAll();
        b.open();
    }

    private void refused(String call, Class<? extends RuntimeException> want, Consumer<LogBook> act) {
        LogBook b = make.get();
        DUE.fails(state + ": " + call, want, () -> act.accept(b));
        DUE.yes(state + ": " + call + " changes nothing", Trace.of(b).equals(untouched));
    }

    private static void open(String state, Supplier<LogBook> make, int end, int[] noRecords, int... notForced) {
        RefusedTest test = new RefusedTest(state, make);
        DUE.is(state + ": END", end, () -> make.get().log(2));
        test.wrongBufferWords();
        test.wrongAppends(end);
        test.wrongRecords(noRecords);
        test.wrongRecords(-1, MIN, MAX);
        test.wrongPartsOfARecord(make.get().last());
        for (int serial : notForced) {
            test.refused("giveBack(" + serial + ")", STATE, b -> b.giveBack(serial));
        }
        test.wrongOwners();
        test.wrongNumbers();
        test.refused("open()", STATE, LogBook::open);
    }

    private void wrongBufferWords() {
        for (int i : new int[] {-1, 200, MIN, MAX}) {
            refused("set(" + i + ", 77)", INDEX, b -> b.set(i, 77));
        }
    }

    private void wrongAppends(int end) {
        for (int wrong : new int[] {-1, 16, MIN, MAX}) {
            refused("append, kind " + wrong, ARGUMENT, b -> b.append(wrong, 0, -1, 0));
        }
        for (int wrong : new int[] {-1, 8, MIN, MAX}) {
            refused("append, owner " + wrong, ARGUMENT, b -> b.append(0, wrong, -1, 0));
        }
        for (int wrong : new int[] {-2, end, MIN, MAX}) {
            refused("append, link " + wrong, ARGUMENT, b -> b.append(0, 0, wrong, 0));
        }
        for (int wrong : new int[] {-1, 201, MIN, MAX}) {
            refused("append, n " + wrong, ARGUMENT, b -> b.append(0, 0, -1, wrong));
        }
    }

    private void wrongRecords(int... serials) {
        for (int s : serials) {
            refused("force(" + s + ")", ELEMENT, b -> b.force(s));
            refused("giveBack(" + s + ")", ELEMENT, b -> b.giveBack(s));
            refused("next(" + s + ")", ELEMENT, b -> b.next(s));
            refused("before(" + s + ")", ELEMENT, b -> b.before(s));
            refused("of(" + s + ", 0)", ELEMENT, b -> b.of(s, 0));
            refused("of(" + s + ", 5)", ELEMENT, b -> b.of(s, 5));
            refused("word(" + s + ", 0)", ELEMENT, b -> b.word(s, 0));
            refused("word(" + s + ", -1)", ELEMENT, b -> b.word(s, -1));
        }
    }

    private void wrongPartsOfARecord(int s) {
        if (s == LogBook.NONE) {
            return;
        }
        int n = make.get().of(s, 4);
        for (int wrong : new int[] {-1, 5, MIN, MAX}) {
            refused("of(" + s + ", " + wrong + ")", INDEX, b -> b.of(s, wrong));
        }
        for (int wrong : new int[] {-1, n, MIN, MAX}) {
            refused("word(" + s + ", " + wrong + ")", INDEX, b -> b.word(s, wrong));
        }
    }

    private void wrongOwners() {
        for (int wrong : new int[] {-1, 8, MIN, MAX}) {
            refused("lastOf(" + wrong + ")", ARGUMENT, b -> b.lastOf(wrong));
            refused("back(" + wrong + ", -1, 0)", ARGUMENT, b -> b.back(wrong, -1, 0));
        }
        refused("back(0, -1, -1)", ARGUMENT, b -> b.back(0, -1, -1));
        refused("back(0, -1, MIN)", ARGUMENT, b -> b.back(0, -1, MIN));
    }

    private void wrongNumbers() {
        for (int wrong : new int[] {-1, 3, MIN, MAX}) {
            refused("log(" + wrong + ")", INDEX, b -> b.log(wrong));
        }
        refused("cutAfter(-2)", ARGUMENT, b -> b.cutAfter(-2));
        refused("cutAfter(MIN)", ARGUMENT, b -> b.cutAfter(MIN));
    }

    /** With arguments that an open book takes, and with those that it refuses for another reason. */
    private static void closed(String state, Supplier<LogBook> make) {
        RefusedTest test = new RefusedTest(state, make);
        for (int s : new int[] {make.get().log(0), make.get().log(2), -1, MIN, MAX}) {
            test.refused("force(" + s + ")", STATE, b -> b.force(s));
            test.refused("giveBack(" + s + ")", STATE, b -> b.giveBack(s));
            test.refused("next(" + s + ")", STATE, b -> b.next(s));
            test.refused("before(" + s + ")", STATE, b -> b.before(s));
            test.refused("of(" + s + ", 0)", STATE, b -> b.of(s, 0));
            test.refused("of(" + s + ", 5)", STATE, b -> b.of(s, 5));
            test.refused("word(" + s + ", 0)", STATE, b -> b.word(s, 0));
            test.refused("word(" + s + ", -1)", STATE, b -> b.word(s, -1));
        }
        test.closedToTheBuffer();
        test.closedToAnyBook();
        test.wrongNumbers();
    }

    private void closedToTheBuffer() {
        for (int i : new int[] {0, 199, -1, 200}) {
            refused("set(" + i + ", 77)", STATE, b -> b.set(i, 77));
        }
        refused("fill(7, 7)", STATE, b -> b.fill(7, 7));
        refused("append(0, 0, -1, 0)", STATE, b -> b.append(0, 0, -1, 0));
        refused("append(16, 8, -2, 201)", STATE, b -> b.append(16, 8, -2, 201));
    }

    private void closedToAnyBook() {
        refused("forceAll()", STATE, LogBook::forceAll);
        refused("first()", STATE, LogBook::first);
        refused("last()", STATE, LogBook::last);
        refused("lastForced()", STATE, LogBook::lastForced);
        refused("count()", STATE, LogBook::count);
        for (int owner : new int[] {0, 7, -1, 8}) {
            refused("lastOf(" + owner + ")", STATE, b -> b.lastOf(owner));
            refused("back(" + owner + ", -1, 0)", STATE, b -> b.back(owner, -1, 0));
            refused("back(" + owner + ", -1, -1)", STATE, b -> b.back(owner, -1, -1));
        }
    }
}
