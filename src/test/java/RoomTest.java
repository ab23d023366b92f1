import java.util.NoSuchElementException;

/**
 * Terms: "at most 65536 are there at a time". The last record that has room and the first that has
 * none, in books that are full in every way; and places past 65536, where words are used again.
 */
public final class RoomTest {
    private static final Due DUE = new Due();
    private static final int ROOM = Books.ROOM;
    private static final int OLDEST = 61500;

    public static void main(String[] args) {
        emptyBookHasRoomForTheLongest();
        everyRestOfRoom();
        noRoomChangesNothing();
        argumentsAreLookedAtBeforeRoom();
        forcingMakesNoRoom();
        givingBackMakesRoom();
        givingBackOneRecordOnly();
        lossOfUnforcedWordsMakesRoom();
        voidRecordsTakeRoom();
        fullBookIsRead();
        fullBookIsForced();
        fullBookFailsInItsLastWord();
        recordOverTheRingsEnd();
        recordBehindTheRingsEnd();
        linksPastTheRingsEnd();
        powerFailsOverTheRingsEnd();
        openFailsOverTheRingsEnd();
        fullPastTheRingsEnd();
        oldWordsAreNotRead();
        DUE.end();
    }

    private static void emptyBookHasRoomForTheLongest() {
        LogBook b = new LogBook();
        DUE.is("append n 200", 0, () -> b.append(0, 0, -1, 200));
        DUE.logIs(b, 0, 0, 205);
    }

    /** With each rest of 0 .. 205 words: n + 5 may be the rest, but not one more. */
    private static void everyRestOfRoom() {
        for (int rest = 0; rest <= 205; rest++) {
            LogBook b = Books.withWords(ROOM - rest);
            int n = rest - 5;
            int end = ROOM - rest;
            if (n < 200) {
                DUE.is("rest " + rest + ", a word too many", -1, () -> b.append(1, 1, -1, Math.max(n + 1, 0)));
                DUE.is("rest " + rest + ", n 200", -1, () -> b.append(1, 1, -1, 200));
                DUE.logIs(b, 0, 0, end);
            }
            if (n >= 0) {
                DUE.is("rest " + rest + ", just enough", end, () -> b.append(1, 1, -1, n));
                DUE.logIs(b, 0, 0, ROOM);
            }
            DUE.is("rest " + rest + ", n 0 in what is left", -1, () -> b.append(1, 1, -1, 0));
        }
    }

    private static void noRoomChangesNothing() {
        for (int rest : new int[] {0, 4, 5, 141, 204}) {
            LogBook asked = Books.withWords(ROOM - rest);
            LogBook twin = Books.withWords(ROOM - rest);
            DUE.is("append, no room", -1, () -> asked.append(3, 3, 0, Math.max(rest - 4, 0)));
            DUE.yes("no room changes nothing, rest " + rest, Trace.of(asked).equals(Trace.of(twin)));
        }
    }

    private static void argumentsAreLookedAtBeforeRoom() {
        LogBook b = Books.full();
        DUE.fails("kind 16", IllegalArgumentException.class, () -> b.append(16, 0, -1, 0));
        DUE.fails("owner 8", IllegalArgumentException.class, () -> b.append(0, 8, -1, 0));
        DUE.fails("n 201", IllegalArgumentException.class, () -> b.append(0, 0, -1, 201));
        DUE.fails("link END", IllegalArgumentException.class, () -> b.append(0, 0, ROOM, 0));
        DUE.is("link END - 1", -1, () -> b.append(0, 0, ROOM - 1, 0));
    }

    private static void forcingMakesNoRoom() {
        LogBook b = Books.full();
        b.force(0);
        DUE.is("append, one forced", -1, () -> b.append(0, 0, -1, 0));
        b.forceAll();
        DUE.is("append, all forced", -1, () -> b.append(0, 0, -1, 0));
        DUE.is("giveBack of nothing", 0, () -> b.giveBack(0));
        DUE.is("append, nothing given back", -1, () -> b.append(0, 0, -1, 0));
    }

    private static void givingBackMakesRoom() {
        LogBook b = Books.full();
        b.forceAll();
        DUE.is("giveBack(205)", 205, () -> b.giveBack(205));
        DUE.is("append n 199", ROOM, () -> b.append(0, 0, -1, 199));
        DUE.is("append n 0 in one word", -1, () -> b.append(0, 0, -1, 0));
        DUE.is("giveBack(410)", 205, () -> b.giveBack(410));
        DUE.is("append n 200 in 206 words", ROOM + 204, () -> b.append(0, 0, -1, 200));
        DUE.logIs(b, 410, ROOM, ROOM + 409);
        DUE.is("append n 0 in one word again", -1, () -> b.append(0, 0, -1, 0));
        DUE.is("giveBack of all but the last forced one", 65395 - 410, () -> b.giveBack(65395));
        DUE.is("append n 200", ROOM + 409, () -> b.append(0, 0, -1, 200));
    }

    /** The shortest record first: five words given back have room for five and no more. */
    private static void givingBackOneRecordOnly() {
        LogBook b = new LogBook();
        b.append(2, 2, -1, 0);
        Books.addWords(b, ROOM - 5);
        DUE.is("append, full", -1, () -> b.append(0, 0, -1, 0));
        b.forceAll();
        DUE.is("giveBack(5)", 5, () -> b.giveBack(5));
        DUE.is("append n 1", -1, () -> b.append(0, 2, -1, 1));
        DUE.is("append n 0", ROOM, () -> b.append(0, 2, -1, 0));
        DUE.is("the one before of owner 2", -1, () -> b.of(ROOM, 2));
        DUE.is("append n 0, full again", -1, () -> b.append(0, 0, -1, 0));
    }

    private static void lossOfUnforcedWordsMakesRoom() {
        LogBook b = Books.full();
        b.force(205);
        b.cut();
        b.open();
        DUE.logIs(b, 0, 410, 410);
        DUE.is("append n 200", 410, () -> b.append(0, 0, -1, 200));
    }

    private static void voidRecordsTakeRoom() {
        LogBook b = new LogBook();
        b.append(0, 0, -1, 0);
        b.cutAfter(1);
        b.forceAll();
        b.open();
        Books.addWords(b, ROOM - 5);
        DUE.logIs(b, 0, 5, ROOM);
        DUE.is("append n 0", -1, () -> b.append(0, 0, -1, 0));
        DUE.is("first()", 5, b::first);
        b.forceAll();
        DUE.is("giveBack(5) of the void words", 5, () -> b.giveBack(5));
        DUE.is("append n 0", ROOM, () -> b.append(0, 0, -1, 0));
    }

    private static void fullBookIsRead() {
        LogBook b = Books.full();
        DUE.is("first()", 0, b::first);
        DUE.is("last()", 65395, b::last);
        DUE.is("count()", 320, b::count);
        DUE.is("next of the last", -1, () -> b.next(65395));
        DUE.is("before the last", 65190, () -> b.before(65395));
        DUE.is("n of the last", 136, () -> b.of(65395, 4));
        DUE.is("word(65395, 135)", 0, () -> b.word(65395, 135));
        DUE.fails("word(65395, 136)", IndexOutOfBoundsException.class, () -> b.word(65395, 136));
        DUE.is("lastOf(0)", 65395, () -> b.lastOf(0));
        DUE.is("back to the first", 0, () -> b.back(0, 1, 319));
        DUE.is("back past the first", -1, () -> b.back(0, 1, 320));
        DUE.fails("next(65536)", NoSuchElementException.class, () -> b.next(ROOM));
    }

    private static void fullBookIsForced() {
        LogBook b = Books.full();
        b.cutAfter(ROOM);
        DUE.is("forceAll() with 65536 words", ROOM, b::forceAll);
        DUE.yes("isOpen()", b.isOpen());
        DUE.is("lastForced()", 65395, b::lastForced);
        DUE.is("forceAll() with none left, nothing to write", 0, b::forceAll);
    }

    private static void fullBookFailsInItsLastWord() {
        LogBook b = Books.full();
        b.cutAfter(ROOM - 1);
        DUE.is("forceAll() with 65535 words", -1, b::forceAll);
        DUE.logIs(b, 0, ROOM - 1, ROOM - 1);
        DUE.is("open()", 1, b::open);
        DUE.logIs(b, 0, ROOM, ROOM);
        DUE.is("append, full of void words", -1, () -> b.append(0, 0, -1, 0));
        DUE.is("last()", 65190, b::last);
        DUE.is("giveBack(65190)", 65190, () -> b.giveBack(65190));
        DUE.is("append", ROOM, () -> b.append(0, 0, -1, 0));
        DUE.is("the one before of owner 0", 65190, () -> b.of(ROOM, 2));
        DUE.is("before it", 65190, () -> b.before(ROOM));
    }

    /** So that each word of the record, from its second to its last, is once the first at 65536. */
    private static void recordOverTheRingsEnd() {
        for (int d = 1; d <= 11; d++) {
            int s = ROOM - d;
            LogBook b = Books.nearTheRingsEnd(s);
            int last = b.last();
            b.fill(70, 3);
            DUE.is("append", s, () -> b.append(13, 6, last, 6));
            int[] parts = {13, 6, -1, last, 6};
            for (int i = 0; i < 5; i++) {
                int what = i;
                DUE.is("of(" + s + ", " + i + ")", parts[i], () -> b.of(s, what));
            }
            for (int i = 0; i < 6; i++) {
                int at = i;
                DUE.is("word(" + s + ", " + i + ")", 70 + 3 * i, () -> b.word(s, at));
            }
            DUE.is("append behind", s + 11, () -> b.append(12, 6, -1, 0));
            DUE.is("of(" + (s + 11) + ", 2)", s, () -> b.of(s + 11, 2));
            DUE.is("next", s, () -> b.next(last));
            DUE.is("next but one", s + 11, () -> b.next(s));
            DUE.is("before", s, () -> b.before(s + 11));
            DUE.is("before but one", last, () -> b.before(s));
            DUE.is("lastOf(6)", s + 11, () -> b.lastOf(6));
            DUE.is("back(6, 1 << 13, 0)", s, () -> b.back(6, 1 << 13, 0));
            DUE.is("force", 11, () -> b.force(s));
            DUE.is("lastForced()", s, b::lastForced);
            DUE.is("giveBack", s - OLDEST, () -> b.giveBack(s));
            DUE.is("first()", s, b::first);
            DUE.is("count()", 2, b::count);
            DUE.logIs(b, s, s + 11, s + 16);
        }
    }

    private static void recordBehindTheRingsEnd() {
        LogBook b = Books.nearTheRingsEnd(ROOM);
        DUE.is("append at 65536", ROOM, () -> b.append(5, 5, ROOM - 1, 0));
        DUE.is("append behind", ROOM + 5, () -> b.append(5, 5, ROOM, 0));
        DUE.fails("next(0), whose words are used again", NoSuchElementException.class, () -> b.next(0));
        DUE.fails("of(5, 0), whose words are used again", NoSuchElementException.class, () -> b.of(5, 0));
        DUE.fails("next(END)", NoSuchElementException.class, () -> b.next(ROOM + 10));
        DUE.fails("next(131072)", NoSuchElementException.class, () -> b.next(2 * ROOM));
        DUE.is("back(5, -1, 1)", ROOM, () -> b.back(5, -1, 1));
        DUE.is("back(5, -1, 2), linked into a record", -1, () -> b.back(5, -1, 2));
    }

    private static void linksPastTheRingsEnd() {
        LogBook b = Books.nearTheRingsEnd(ROOM - 2);
        b.append(1, 1, -1, 0);
        DUE.fails("link END", IllegalArgumentException.class, () -> b.append(2, 1, ROOM + 3, 0));
        DUE.is("link END - 1", ROOM + 3, () -> b.append(2, 1, ROOM + 2, 0));
        DUE.is("link to a record past 65536", ROOM + 8, () -> b.append(3, 2, ROOM + 3, 0));
        DUE.is("link to what is given back", ROOM + 13, () -> b.append(4, 3, 0, 0));
        DUE.is("link as written", 0, () -> b.of(ROOM + 13, 3));
        DUE.is("back(2, -1, 0)", ROOM + 8, () -> b.back(2, -1, 0));
        DUE.is("back(2, -1, 1), into another owner's record and no further", -1, () -> b.back(2, -1, 1));
        DUE.is("back(3, -1, 0)", ROOM + 13, () -> b.back(3, -1, 0));
        DUE.is("back(3, -1, 1), given back", -1, () -> b.back(3, -1, 1));
    }

    private static void powerFailsOverTheRingsEnd() {
        for (int there = 0; there <= 11; there++) {
            int s = ROOM - 4;
            int words = there;
            LogBook b = Books.nearTheRingsEnd(s);
            int last = b.last();
            b.append(13, 6, -1, 6);
            b.cutAfter(there);
            boolean fails = there < 11;
            DUE.is("forceAll() with " + there, fails ? -1 : 11, b::forceAll);
            DUE.logIs(b, OLDEST, s + words, fails ? s + words : s + 11);
            if (fails) {
                DUE.is("open() with " + there, there == 0 ? 0 : 11 - there, b::open);
            }
            int end = there == 0 ? s : s + 11;
            DUE.logIs(b, OLDEST, end, end);
            DUE.is("last()", fails ? last : s, b::last);
            DUE.is("append", end, () -> b.append(1, 6, -1, 0));
            DUE.is("before it", fails ? last : s, () -> b.before(end));
            DUE.is("the one before of its owner", fails ? -1 : s, () -> b.of(end, 2));
        }
    }

    private static void openFailsOverTheRingsEnd() {
        int s = ROOM - 4;
        for (int words = 0; words <= 9; words++) {
            LogBook b = Books.nearTheRingsEnd(s);
            int last = b.last();
            b.append(13, 6, -1, 6);
            b.cutAfter(2);
            b.forceAll();
            b.cutAfter(words);
            boolean fails = words < 9;
            int forced = s + 2 + words;
            DUE.is("open() with " + words, fails ? -1 : 9, b::open);
            DUE.logIs(b, OLDEST, forced, forced);
            if (fails) {
                DUE.is("open() again", 9 - words, b::open);
            }
            DUE.logIs(b, OLDEST, s + 11, s + 11);
            DUE.is("last()", last, b::last);
            DUE.fails("next of the void one", NoSuchElementException.class, () -> b.next(s));
        }
    }

    /** Full, 150 records given back, and full again with as many behind 65536. */
    private static void fullPastTheRingsEnd() {
        LogBook b = Books.full();
        b.forceAll();
        DUE.is("giveBack(30750)", 30750, () -> b.giveBack(150 * 205));
        for (int i = 0; i < 150; i++) {
            b.append(i % 16, 1 + i % 7, -1, 200);
        }
        int end = ROOM + 30750;
        DUE.logIs(b, 30750, ROOM, end);
        DUE.is("append n 0", -1, () -> b.append(0, 0, -1, 0));
        DUE.is("count()", 320, b::count);
        DUE.is("first()", 30750, b::first);
        DUE.is("last()", end - 205, b::last);
        DUE.is("lastForced()", 65395, b::lastForced);
        DUE.is("next(65395)", ROOM, () -> b.next(65395));
        DUE.is("before(65536)", 65395, () -> b.before(ROOM));
        DUE.is("before the first", -1, () -> b.before(30750));
        DUE.is("next of the last", -1, () -> b.next(end - 205));
        DUE.is("lastOf(0)", 65395, () -> b.lastOf(0));
        DUE.is("back to the first", 30750, () -> b.back(0, 1, 169));
        DUE.is("back to what is given back", -1, () -> b.back(0, 1, 170));
        b.cutAfter(30749);
        DUE.is("forceAll() with a word too few", -1, b::forceAll);
        DUE.is("open()", 1, b::open);
        DUE.logIs(b, 30750, end, end);
        DUE.is("append n 0, full of void words", -1, () -> b.append(0, 0, -1, 0));
        DUE.is("count() without the void one", 319, b::count);
    }

    /** Old words that look like the end of a begun record, or like the length of one at END. */
    private static void oldWordsAreNotRead() {
        for (int old : new int[] {105, -105, 5, -5, 1, -1, 0, Integer.MAX_VALUE, Integer.MIN_VALUE}) {
            LogBook b = new LogBook();
            b.fill(old, 0);
            Books.addWords(b, ROOM);
            b.forceAll();
            b.giveBack(OLDEST);
            b.append(0, 0, -1, 100);
            b.cutAfter(1);
            DUE.is("forceAll()", -1, b::forceAll);
            DUE.is("open(), old words " + old, 104, b::open);
            DUE.logIs(b, OLDEST, ROOM + 105, ROOM + 105);
            b.cut();
            DUE.is("open() again, old words " + old, 0, b::open);
            DUE.fails("next of the void one", NoSuchElementException.class, () -> b.next(ROOM));
            DUE.fails("next of END", NoSuchElementException.class, () -> b.next(ROOM + 105));
            DUE.is("append", ROOM + 105, () -> b.append(1, 1, -1, 200));
            for (int i : new int[] {0, 99, 199}) {
                DUE.is("word " + i, 0, () -> b.word(ROOM + 105, i));
            }
        }
    }
}
