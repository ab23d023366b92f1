import java.util.NoSuchElementException;

/** A book of records on a log of words that can be cut anywhere. */
public final class LogBook {
    public static final int NONE = -1;

    private static final int ROOM = 65536;
    /** ROOM is a power of two, so masking brings every place to an index of the row. */
    private static final int RING_MASK = ROOM - 1;
    private static final int BUFFER_WORDS = 200;
    private static final int KINDS = 16;
    private static final int OWNERS = 8;

    private static final int CODE_OFFSET = 1;
    private static final int PREVIOUS_OFFSET = 2;
    private static final int LINK_OFFSET = 3;
    private static final int CONTENT_OFFSET = 4;
    private static final int FRAME_WORDS = 5;
    private static final int MOST_WORDS = BUFFER_WORDS + FRAME_WORDS;
    /** No walk over records can be longer, for the shortest record has FRAME_WORDS words. */
    private static final int MOST_RECORDS = ROOM / FRAME_WORDS;

    /** At most ROOM words are there at a time, so the places given back are used again. */
    private final int[] ring;
    private final int[] buffer;
    private int firstPlace;
    private int forcedPlace;
    private int endPlace;
    /** How many words may still be written before power fails; NONE when it never does. */
    private int wordsToFailure;
    private boolean opened;

    public LogBook() {
        ring = new int[ROOM];
        buffer = new int[BUFFER_WORDS];
        firstPlace = 0;
        forcedPlace = 0;
        endPlace = 0;
        wordsToFailure = NONE;
        opened = true;
    }

    public void set(int i, int v) throws IllegalStateException, IndexOutOfBoundsException {
        requireOpen();
        if (i < 0 || i >= buffer.length) {
            throw new IndexOutOfBoundsException("the buffer has words 0 .. 199");
        }
        buffer[i] = v;
    }

    public void fill(int a, int b) throws IllegalStateException {
        requireOpen();
        fillBuffer(a, b);
    }

    public int append(int kind, int owner, int link, int n) throws IllegalStateException, IllegalArgumentException {
        requireOpen();
        requireOwner(owner);
        if (kind < 0 || kind >= KINDS) {
            throw new IllegalArgumentException("kinds are 0 .. 15");
        }
        if (n < 0 || n > BUFFER_WORDS) {
            throw new IllegalArgumentException("a content has 0 .. 200 words");
        }
        if (link < NONE || link >= endPlace) {
            throw new IllegalArgumentException("a link is NONE or a place before the end");
        }
        int length = n + FRAME_WORDS;
        if (length > ROOM - (endPlace - firstPlace)) {
            return NONE;
        }
        int serial = endPlace;
        int previous = lastRecordOf(owner);
        addWord(length);
        addWord(kind + KINDS * owner);
        addWord(previous);
        addWord(link);
        addContent(n);
        addWord(length);
        return serial;
    }

    public int force(int serial) throws IllegalStateException, NoSuchElementException {
        requireOpen();
        requireRecord(serial);
        return writeUpTo(behind(serial));
    }

    public int forceAll() throws IllegalStateException {
        requireOpen();
        return writeUpTo(endPlace);
    }

    public int giveBack(int serial) throws IllegalStateException, NoSuchElementException {
        requireOpen();
        requireRecord(serial);
        if (behind(serial) > forcedPlace) {
            throw new IllegalStateException("the record is not wholly forced");
        }
        int words = serial - firstPlace;
        firstPlace = serial;
        return words;
    }

    public int first() throws IllegalStateException {
        requireOpen();
        return firstRecordFrom(firstPlace);
    }

    public int last() throws IllegalStateException {
        requireOpen();
        return lastRecordBefore(endPlace);
    }

    public int lastForced() throws IllegalStateException {
        requireOpen();
        // in an open book FORCED lies between two records: force and open stop nowhere else
        return lastRecordBefore(forcedPlace);
    }

    public int next(int serial) throws IllegalStateException, NoSuchElementException {
        requireOpen();
        requireRecord(serial);
        return firstRecordFrom(behind(serial));
    }

    public int before(int serial) throws IllegalStateException, NoSuchElementException {
        requireOpen();
        requireRecord(serial);
        return lastRecordBefore(serial);
    }

    public int lastOf(int owner) throws IllegalStateException, IllegalArgumentException {
        requireOpen();
        requireOwner(owner);
        return lastRecordOf(owner);
    }

    public int of(int serial, int what) throws IllegalStateException, NoSuchElementException, IndexOutOfBoundsException {
        requireOpen();
        requireRecord(serial);
        switch (what) {
            case 0:
                return kindAt(serial);
            case 1:
                return ownerAt(serial);
            case 2:
                return wordAt(serial + PREVIOUS_OFFSET);
            case 3:
                return wordAt(serial + LINK_OFFSET);
            case 4:
                return contentWords(serial);
            default:
                throw new IndexOutOfBoundsException("what is 0 .. 4");
        }
    }

    public int word(int serial, int i) throws IllegalStateException, NoSuchElementException, IndexOutOfBoundsException {
        requireOpen();
        requireRecord(serial);
        if (i < 0 || i >= contentWords(serial)) {
            throw new IndexOutOfBoundsException("the record has no such word");
        }
        return wordAt(serial + CONTENT_OFFSET + i);
    }

    public int back(int owner, int kinds, int k) throws IllegalStateException, IllegalArgumentException {
        requireOpen();
        requireOwner(owner);
        if (k < 0) {
            throw new IllegalArgumentException("k is not below 0");
        }
        return kthOnTheWay(owner, kinds, k);
    }

    public int count() throws IllegalStateException {
        requireOpen();
        int records = 0;
        int at = lastRecordBefore(endPlace);
        for (int i = 0; i < MOST_RECORDS && at != NONE; i++) {
            records++;
            at = lastRecordBefore(at);
        }
        return records;
    }

    public int log(int which) throws IndexOutOfBoundsException {
        switch (which) {
            case 0:
                return firstPlace;
            case 1:
                return forcedPlace;
            case 2:
                return endPlace;
            default:
                throw new IndexOutOfBoundsException("which is 0 .. 2");
        }
    }

    public void cutAfter(int n) throws IllegalArgumentException {
        if (n < NONE) {
            throw new IllegalArgumentException("n is NONE or a number of words");
        }
        wordsToFailure = n;
    }

    public boolean cut() {
        if (!opened) {
            return false;
        }
        losePower();
        return true;
    }

    public int open() throws IllegalStateException {
        if (opened) {
            throw new IllegalStateException("the book is open");
        }
        addVoidRest();
        int words = writeUpTo(endPlace);
        opened = words != NONE;
        return words;
    }

    public boolean isOpen() {
        return opened;
    }

    private void requireOpen() {
        if (!opened) {
            throw new IllegalStateException("the book is closed");
        }
    }

    private void requireOwner(int owner) {
        if (owner < 0 || owner >= OWNERS) {
            throw new IllegalArgumentException("owners are 0 .. 7");
        }
    }

    private void requireRecord(int serial) {
        if (!isRecord(serial)) {
            throw new NoSuchElementException("no record has this serial");
        }
    }

    private void fillBuffer(int a, int b) {
        for (int i = 0; i < buffer.length; i++) {
            buffer[i] = a + i * b;
        }
    }

    private int wordAt(int place) {
        return ring[place & RING_MASK];
    }

    private void addWord(int v) {
        ring[endPlace & RING_MASK] = v;
        endPlace++;
    }

    private void addContent(int n) {
        for (int i = 0; i < n && i < buffer.length; i++) {
            addWord(buffer[i]);
        }
    }

    private int kindAt(int serial) {
        return wordAt(serial + CODE_OFFSET) % KINDS;
    }

    private int ownerAt(int serial) {
        return wordAt(serial + CODE_OFFSET) / KINDS;
    }

    private int contentWords(int serial) {
        return wordAt(serial) - FRAME_WORDS;
    }

    /** The place behind a record, void or begun ones too. */
    private int behind(int serial) {
        return serial + wordAt(serial);
    }

    private boolean isVoid(int serial) {
        return wordAt(behind(serial) - 1) < 0;
    }

    /** A word that looks like a record may be content, so only a walk from FIRST can tell. */
    private boolean isRecord(int serial) {
        int at = firstPlace;
        for (int i = 0; i < MOST_RECORDS && at < serial && at < endPlace; i++) {
            at = behind(at);
        }
        return at == serial && at < endPlace && !isVoid(at);
    }

    /** The first record at a place between two records, or behind it; NONE. */
    private int firstRecordFrom(int place) {
        int at = place;
        for (int i = 0; i < MOST_RECORDS && at < endPlace; i++) {
            if (!isVoid(at)) {
                return at;
            }
            at = behind(at);
        }
        return NONE;
    }

    /** The last record that ends at a place between two records, or before it; NONE. */
    private int lastRecordBefore(int place) {
        int at = place;
        for (int i = 0; i < MOST_RECORDS && at > firstPlace; i++) {
            int closing = wordAt(at - 1);
            at -= Math.abs(closing);
            if (closing > 0) {
                return at;
            }
        }
        return NONE;
    }

    private int lastRecordOf(int owner) {
        int at = lastRecordBefore(endPlace);
        for (int i = 0; i < MOST_RECORDS && at != NONE; i++) {
            if (ownerAt(at) == owner) {
                return at;
            }
            at = lastRecordBefore(at);
        }
        return NONE;
    }

    /**
     * The way of an owner only ever leads to smaller places (a link lies before the END that its
     * record was appended at), so one walk backward over all records meets every stop of it.
     */
    private int kthOnTheWay(int owner, int kinds, int k) {
        int stop = lastRecordOf(owner);
        int at = stop;
        int toPass = k;
        for (int i = 0; i < MOST_RECORDS && at != NONE && at >= stop; i++) {
            if (at == stop) {
                if (isAskedFor(at, owner, kinds)) {
                    if (toPass == 0) {
                        return at;
                    }
                    toPass--;
                }
                stop = stopBehind(at);
            }
            at = stop == NONE ? NONE : lastRecordBefore(at);
        }
        return NONE;
    }

    /** A link may lead the way over another owner's records; those are not counted. */
    private boolean isAskedFor(int serial, int owner, int kinds) {
        return ownerAt(serial) == owner && (kinds >>> kindAt(serial) & 1) == 1;
    }

    private int stopBehind(int serial) {
        int link = wordAt(serial + LINK_OFFSET);
        return link != NONE ? link : wordAt(serial + PREVIOUS_OFFSET);
    }

    /** How many words were written, or NONE when power failed. */
    private int writeUpTo(int place) {
        int due = Math.max(place - forcedPlace, 0);
        int written = wordsToFailure == NONE ? due : Math.min(due, wordsToFailure);
        forcedPlace += written;
        if (written < due) {
            losePower();
            return NONE;
        }
        if (wordsToFailure != NONE) {
            wordsToFailure -= written;
        }
        return written;
    }

    private void losePower() {
        endPlace = forcedPlace;
        wordsToFailure = NONE;
        opened = false;
        fillBuffer(0, 0);
    }

    /** Adds in memory what a record begun at the end lacks; writing it is left to the caller. */
    private void addVoidRest() {
        int begun = firstPlace;
        for (int i = 0; i < MOST_RECORDS && begun < endPlace && behind(begun) <= endPlace; i++) {
            begun = behind(begun);
        }
        if (begun >= endPlace) {
            return;
        }
        int length = wordAt(begun);
        int lacking = behind(begun) - endPlace;
        for (int i = 1; i < lacking && i < MOST_WORDS; i++) {
            addWord(0);
        }
        addWord(-length);
    }
}
