import java.util.ArrayList;
import java.util.List;

/**
 * What a book answers from here on: all that is kept in it shows in one of these answers, the
 * buffer, the words to a failure of power and a begun record too. Two books with the same trace
 * are in the same state. A trace uses the book up, and takes at most a hundred of its calls.
 */
final class Trace {
    private final LogBook book;
    private final List<String> answers = new ArrayList<>();

    private Trace(LogBook book) {
        this.book = book;
    }

    static List<String> of(LogBook book) {
        Trace trace = new Trace(book);
        trace.places();
        trace.opening();
        trace.records();
        trace.buffer();
        trace.power();
        return trace.answers;
    }

    private long ask(String call, Due.Answer answer) {
        try {
            long got = answer.get();
            answers.add(call + " answered " + got);
            return got;
        } catch (RuntimeException e) {
            answers.add(call + " threw " + e.getClass().getSimpleName());
            return LogBook.NONE;
        }
    }

    private void places() {
        for (int i = 0; i < 3; i++) {
            int which = i;
            ask("log(" + i + ")", () -> book.log(which));
        }
        ask("isOpen()", () -> book.isOpen() ? 1 : 0);
    }

    private void opening() {
        for (int i = 0; i < 3 && !book.isOpen(); i++) {
            ask("open()", book::open);
            places();
        }
    }

    private void records() {
        int first = (int) ask("first()", book::first);
        int last = (int) ask("last()", book::last);
        ask("lastForced()", book::lastForced);
        ask("count()", book::count);
        for (int i = 0; i < 8; i++) {
            int owner = i;
            ask("lastOf(" + i + ")", () -> book.lastOf(owner));
            ask("back(" + i + ", -1, 1)", () -> book.back(owner, -1, 1));
        }
        record(first);
        record(last);
        ask("next", () -> book.next(first));
        ask("before", () -> book.before(last));
    }

    private void record(int serial) {
        for (int i = 0; i < 5; i++) {
            int what = i;
            ask("of(" + serial + ", " + i + ")", () -> book.of(serial, what));
        }
        ask("word(" + serial + ", 0)", () -> book.word(serial, 0));
    }

    /** A full book shows its buffer only when some of it is given back. */
    private void buffer() {
        int s = (int) ask("append", () -> book.append(0, 0, -1, 200));
        if (s == LogBook.NONE) {
            ask("forceAll()", book::forceAll);
            ask("giveBack", () -> book.giveBack(book.last()));
            s = (int) ask("append", () -> book.append(0, 0, -1, 200));
        }
        int serial = s;
        for (int i : new int[] {0, 1, 2, 100, 198, 199}) {
            ask("buffer word " + i, () -> book.word(serial, i));
        }
    }

    private void power() {
        for (int i = 0; i < 3; i++) {
            ask("forceAll()", book::forceAll);
            places();
            opening();
            ask("append", () -> book.append(1, 1, -1, 0));
        }
    }
}
