/** Promises 2 and 3: set and fill, seen through the content of appended records. */
public final class BufferTest {
    private static final Due DUE = new Due();

    public static void main(String[] args) {
        newBufferIsZero();
        setChangesOneWord();
        setRefusesOtherWords();
        fillChangesAllWords();
        recordsKeepTheirContent();
        lossOfPowerClearsTheBuffer();
        closedBook();
        DUE.end();
    }

    private static void newBufferIsZero() {
        LogBook b = new LogBook();
        int s = b.append(0, 0, -1, 200);
        for (int i = 0; i < 200; i++) {
            int at = i;
            DUE.is("word of a new buffer", 0, () -> b.word(s, at));
        }
    }

    private static void setChangesOneWord() {
        LogBook b = new LogBook();
        b.set(0, Integer.MIN_VALUE);
        b.set(7, -3);
        b.set(199, Integer.MAX_VALUE);
        int s = b.append(0, 0, -1, 200);
        DUE.is("word 0", Integer.MIN_VALUE, () -> b.word(s, 0));
        DUE.is("word 1", 0, () -> b.word(s, 1));
        DUE.is("word 6", 0, () -> b.word(s, 6));
        DUE.is("word 7", -3, () -> b.word(s, 7));
        DUE.is("word 8", 0, () -> b.word(s, 8));
        DUE.is("word 198", 0, () -> b.word(s, 198));
        DUE.is("word 199", Integer.MAX_VALUE, () -> b.word(s, 199));
    }

    private static void setRefusesOtherWords() {
        LogBook b = new LogBook();
        for (int i : new int[] {-1, 200, 201, Integer.MIN_VALUE, Integer.MAX_VALUE}) {
            DUE.fails("set(" + i + ", 9)", IndexOutOfBoundsException.class, () -> b.set(i, 9));
        }
        int s = b.append(0, 0, -1, 200);
        for (int i = 0; i < 200; i++) {
            int at = i;
            DUE.is("word behind refused sets", 0, () -> b.word(s, at));
        }
    }

    private static void fillChangesAllWords() {
        LogBook b = new LogBook();
        b.set(3, 77);
        b.fill(100, -7);
        int s = b.append(0, 0, -1, 200);
        for (int i = 0; i < 200; i++) {
            int at = i;
            DUE.is("word " + i + " of fill(100, -7)", 100 - 7 * i, () -> b.word(s, at));
        }
        b.fill(Integer.MAX_VALUE, Integer.MAX_VALUE);
        int t = b.append(0, 0, -1, 200);
        for (int i = 0; i < 200; i++) {
            int at = i;
            DUE.is("word " + i + " of a fill that wraps", Integer.MAX_VALUE + i * Integer.MAX_VALUE, () -> b.word(t, at));
        }
    }

    private static void recordsKeepTheirContent() {
        LogBook b = new LogBook();
        b.fill(1, 1);
        int s = b.append(0, 0, -1, 3);
        b.fill(50, 1);
        int t = b.append(0, 0, -1, 3);
        DUE.is("word(s, 2)", 3, () -> b.word(s, 2));
        DUE.is("word(t, 0)", 50, () -> b.word(t, 0));
    }

    private static void lossOfPowerClearsTheBuffer() {
        LogBook b = new LogBook();
        b.fill(5, 5);
        b.cut();
        b.open();
        int s = b.append(0, 0, -1, 200);
        for (int i = 0; i < 200; i++) {
            int at = i;
            DUE.is("word behind cut", 0, () -> b.word(s, at));
        }
        LogBook c = new LogBook();
        c.fill(5, 5);
        c.append(0, 0, -1, 0);
        c.cutAfter(0);
        c.forceAll();
        c.open();
        int t = c.append(0, 0, -1, 200);
        DUE.is("word 0 behind a force that failed", 0, () -> c.word(t, 0));
        DUE.is("word 199 behind a force that failed", 0, () -> c.word(t, 199));
    }

    private static void closedBook() {
        LogBook b = new LogBook();
        b.cut();
        DUE.fails("set of a closed book", IllegalStateException.class, () -> b.set(0, 1));
        DUE.fails("set(200, ..) of a closed book", IllegalStateException.class, () -> b.set(200, 1));
        DUE.fails("fill of a closed book", IllegalStateException.class, () -> b.fill(1, 1));
        b.open();
        int s = b.append(0, 0, -1, 1);
        DUE.is("word 0 behind a refused fill", 0, () -> b.word(s, 0));
    }
}
