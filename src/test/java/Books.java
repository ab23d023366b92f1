/** Books in the states that several tests begin with. */
final class Books {
    /** The most words that are there at a time. */
    static final int ROOM = 65536;

    private Books() {
    }

    /** Records of 8, 5 and 7 words: serials 0, 8 and 13; END is 20; the buffer is 100, 101, .. */
    static LogBook three() {
        LogBook b = new LogBook();
        b.fill(100, 1);
        b.append(1, 0, -1, 3);
        b.append(15, 7, 6, 0);
        b.append(3, 0, 8, 2);
        return b;
    }

    /** As many of the longest records as can be, so that a test has calls left of its 512. */
    static LogBook withWords(int words) {
        LogBook b = new LogBook();
        addWords(b, words);
        return b;
    }

    /** Records of owner 0 that take so many words (none, or 5 or more). */
    static void addWords(LogBook b, int words) {
        int left = words;
        while (left > 0) {
            int length = lengthOfOne(left);
            b.append(0, 0, -1, length - 5);
            left -= length;
        }
    }

    /** No rest of 1 .. 4 words may be left, for no record is so short. */
    private static int lengthOfOne(int left) {
        if (left <= 205) {
            return left;
        }
        return left < 210 ? 200 : 205;
    }

    static LogBook full() {
        return withWords(ROOM);
    }

    /**
     * END is the given place (at most 65536, and no less than 61705); all is forced, and FIRST is
     * 61500, the record that is left longest.
     */
    static LogBook nearTheRingsEnd(int end) {
        LogBook b = withWords(end);
        b.forceAll();
        b.giveBack(300 * 205);
        return b;
    }

    /** One record at 0, forced; behind it, at 6, one of n + 5 words with the given ones there: the book is closed. */
    static LogBook begun(int n, int there) {
        LogBook b = new LogBook();
        b.append(7, 5, -1, 1);
        b.forceAll();
        b.fill(9, 9);
        b.append(6, 5, 3, n);
        b.cutAfter(there);
        b.forceAll();
        return b;
    }
}
