import java.util.NoSuchElementException;

/** Promises 1 and 4: a new book, and append; for its room, see RoomTest. */
public final class AppendTest {
    private static final Due DUE = new Due();

    public static void main(String[] args) {
        newBook(new LogBook());
        newBookBesideOthers();
        serialsAndLengths();
        edgesOfTheArguments();
        wrongArguments();
        onePreviousForEachOwner();
        previousIsNoneWhenGivenBackOrVoid();
        ringOfPlaces();
        closedBook();
        DUE.end();
    }

    private static void newBook(LogBook b) {
        DUE.yes("isOpen()", b.isOpen());
        DUE.is("first()", -1, b::first);
        DUE.is("last()", -1, b::last);
        DUE.is("lastForced()", -1, b::lastForced);
        DUE.is("count()", 0, b::count);
        DUE.is("forceAll()", 0, b::forceAll);
        for (int i = 0; i < 3; i++) {
            int which = i;
            DUE.is("log(" + i + ")", 0, () -> b.log(which));
        }
        for (int i = 0; i < 8; i++) {
            int owner = i;
            DUE.is("lastOf(" + i + ")", -1, () -> b.lastOf(owner));
            DUE.is("back(" + i + ", -1, 0)", -1, () -> b.back(owner, -1, 0));
        }
        DUE.fails("next(0)", NoSuchElementException.class, () -> b.next(0));
        DUE.fails("next(-1)", NoSuchElementException.class, () -> b.next(-1));
        DUE.fails("open()", IllegalStateException.class, b::open);
    }

    /** Nothing is shared: what was done with one book shows in no other, older or newer. */
    private static void newBookBesideOthers() {
        LogBook older = new LogBook();
        LogBook used = Books.three();
        used.force(8);
        used.giveBack(8);
        used.cutAfter(3);
        newBook(older);
        newBook(new LogBook());
        used.fill(7, 7);
        DUE.is("append to the older book", 0, () -> older.append(9, 7, -1, 200));
        DUE.is("its word, the buffer of another book being filled", 0, () -> older.word(0, 199));
        DUE.is("forceAll() of the older book", 205, older::forceAll);
        older.cut();
        DUE.yes("isOpen() of the used one", used.isOpen());
        DUE.logIs(used, 8, 13, 20);
        DUE.is("word(13, 0) of the used one", 100, () -> used.word(13, 0));
        DUE.is("forceAll() of the used one", -1, used::forceAll);
        DUE.logIs(used, 8, 16, 16);
    }

    private static void serialsAndLengths() {
        LogBook b = new LogBook();
        DUE.is("append n 0", 0, () -> b.append(0, 0, -1, 0));
        DUE.is("append n 1", 5, () -> b.append(0, 0, -1, 1));
        DUE.is("append n 200", 11, () -> b.append(0, 0, -1, 200));
        DUE.is("append behind", 216, () -> b.append(0, 0, -1, 7));
        DUE.is("END", 228, () -> b.log(2));
        DUE.is("FORCED", 0, () -> b.log(1));
        DUE.is("FIRST", 0, () -> b.log(0));
    }

    private static void edgesOfTheArguments() {
        for (int owner = 0; owner < 8; owner++) {
            LogBook b = new LogBook();
            for (int kind = 0; kind < 16; kind++) {
                int end = b.log(2);
                int s = b.append(kind, owner, end - 1, kind % 3);
                int k = kind;
                int o = owner;
                DUE.is("serial", end, () -> s);
                DUE.is("kind", k, () -> b.of(s, 0));
                DUE.is("owner", o, () -> b.of(s, 1));
                DUE.is("link", end - 1, () -> b.of(s, 3));
                DUE.is("n", k % 3, () -> b.of(s, 4));
            }
        }
    }

    private static void wrongArguments() {
        LogBook b = new LogBook();
        refused(b, 0, 0, 0, 0);
        b.fill(9, 9);
        b.append(1, 1, -1, 2);
        refused(b, -1, 0, -1, 0);
        refused(b, 16, 0, -1, 0);
        refused(b, Integer.MIN_VALUE, 0, -1, 0);
        refused(b, Integer.MAX_VALUE, 0, -1, 0);
        refused(b, 0, -1, -1, 0);
        refused(b, 0, 8, -1, 0);
        refused(b, 0, Integer.MIN_VALUE, -1, 0);
        refused(b, 0, Integer.MAX_VALUE, -1, 0);
        refused(b, 0, 0, -1, -1);
        refused(b, 0, 0, -1, 201);
        refused(b, 0, 0, -1, Integer.MIN_VALUE);
        refused(b, 0, 0, -1, Integer.MAX_VALUE);
        refused(b, 0, 0, -2, 0);
        refused(b, 0, 0, 7, 0);
        refused(b, 0, 0, Integer.MIN_VALUE, 0);
        refused(b, 0, 0, Integer.MAX_VALUE, 0);
        DUE.is("END behind refused calls", 7, () -> b.log(2));
        DUE.is("count behind refused calls", 1, b::count);
        DUE.is("a link to the last word there", 7, () -> b.append(0, 0, 6, 0));
    }

    private static void refused(LogBook b, int kind, int owner, int link, int n) {
        DUE.fails("append(" + kind + ", " + owner + ", " + link + ", " + n + ")",
                IllegalArgumentException.class, () -> b.append(kind, owner, link, n));
    }

    private static void onePreviousForEachOwner() {
        LogBook b = new LogBook();
        int[] lastOf = {-1, -1, -1, -1, -1, -1, -1, -1};
        for (int i = 0; i < 40; i++) {
            int owner = i * i % 8;
            int s = b.append(0, owner, -1, i % 4);
            int want = lastOf[owner];
            DUE.is("the one before of owner " + owner, want, () -> b.of(s, 2));
            lastOf[owner] = s;
        }
    }

    private static void previousIsNoneWhenGivenBackOrVoid() {
        LogBook b = new LogBook();
        b.append(0, 3, -1, 0);
        int other = b.append(0, 4, -1, 0);
        b.forceAll();
        b.giveBack(other);
        int s = b.append(0, 3, -1, 0);
        DUE.is("the one before, given back", -1, () -> b.of(s, 2));

        LogBook c = new LogBook();
        c.append(0, 3, -1, 0);
        c.cutAfter(4);
        c.forceAll();
        c.open();
        int t = c.append(0, 3, -1, 0);
        DUE.is("the one before, void", -1, () -> c.of(t, 2));

        LogBook d = new LogBook();
        int kept = d.append(0, 3, -1, 0);
        d.force(kept);
        d.append(0, 3, -1, 0);
        d.cut();
        d.open();
        int u = d.append(0, 3, -1, 0);
        DUE.is("the one before, when a later one is lost", kept, () -> d.of(u, 2));
    }

    /** Places go on past 65536 when the oldest are given back; no record is mixed with another. */
    private static void ringOfPlaces() {
        LogBook b = Books.nearTheRingsEnd(65395);
        for (int i = 0; i < 12; i++) {
            b.set(i, 1000 + i);
            int s = b.append(i, i % 8, 65394 + i, 100 + i);
            int at = i;
            DUE.is("word " + i, 1000 + i, () -> b.word(s, at));
            DUE.is("kind", i, () -> b.of(s, 0));
            DUE.is("n", 100 + i, () -> b.of(s, 4));
        }
        DUE.is("END", 65395 + 12 * 105 + 66, () -> b.log(2));
        DUE.is("first()", 300 * 205, b::first);
        DUE.is("count()", 31, b::count);
        int[] serials = new int[31];
        int at = b.first();
        for (int i = 0; i < 31; i++) {
            serials[i] = at;
            at = b.next(at);
        }
        DUE.is("behind the last one", -1, new Fixed(at));
        DUE.is("the first one past the ring's end", 65395 + 105, new Fixed(serials[20]));
        at = b.last();
        for (int i = 30; i >= 0; i--) {
            DUE.is("backward", serials[i], new Fixed(at));
            at = b.before(at);
        }
        DUE.is("before the first one", -1, new Fixed(at));
    }

    private record Fixed(int value) implements Due.Answer {
        @Override
        public long get() {
            return value;
        }
    }

    private static void closedBook() {
        LogBook b = new LogBook();
        b.cut();
        DUE.fails("append to a closed book", IllegalStateException.class, () -> b.append(0, 0, -1, 0));
        DUE.fails("wrong append to a closed book", IllegalStateException.class, () -> b.append(16, 8, -2, 201));
    }
}
