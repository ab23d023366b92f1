import java.util.ArrayList;
import java.util.List;

/**
 * The document once more, held as a list of records instead of words: slow, and in another form
 * than LogBook, so that a fault would have to be made twice to stay hidden. An exception is
 * answered as a text, any other answer as a number.
 */
final class BookModel {
    static final String STATE = "IllegalStateException";
    static final String ARGUMENT = "IllegalArgumentException";
    static final String INDEX = "IndexOutOfBoundsException";
    static final String ELEMENT = "NoSuchElementException";

    private static final class Entry {
        int serial;
        int kind;
        int owner;
        int previous;
        int link;
        int[] content;
        boolean isVoid;

        int end() {
            return serial + content.length + 5;
        }
    }

    private final List<Entry> entries = new ArrayList<>();
    private int[] buffer = new int[200];
    private int first = 0;
    private int forced = 0;
    private int end = 0;
    private int said = -1;
    private boolean isOpen = true;

    Object call(int which, int a, int b, int c, int d) {
        switch (which) {
            case 18: return a == 0 ? first : a == 1 ? forced : a == 2 ? (Object) end : INDEX;
            case 19:
                if (a < -1) return ARGUMENT;
                said = a;
                return 0;
            case 20:
                if (!isOpen) return 0;
                fail();
                return 1;
            case 21: return isOpen ? STATE : (Object) open();
            case 22: return isOpen ? 1 : 0;
            default: return isOpen ? callOpen(which, a, b, c, d) : STATE;
        }
    }

    private Object callOpen(int which, int a, int b, int c, int d) {
        switch (which) {
            case 2:
                if (a < 0 || a > 199) return INDEX;
                buffer[a] = b;
                return 0;
            case 3:
                for (int i = 0; i < 200; i++) buffer[i] = a + i * b;
                return 0;
            case 4: return append(a, b, c, d);
            case 6: return write(end);
            case 8: return serialOf(records(), 0);
            case 9: return serialOf(records(), records().size() - 1);
            case 10: {
                List<Entry> list = records();
                list.removeIf(e -> e.end() > forced);
                return serialOf(list, list.size() - 1);
            }
            case 13: return a < 0 || a > 7 ? ARGUMENT : (Object) lastOf(a);
            case 16: return a < 0 || a > 7 || c < 0 ? ARGUMENT : (Object) back(a, b, c);
            case 17: return records().size();
            default: {
                Entry e = find(a);
                return e == null ? ELEMENT : callRecord(which, e, b);
            }
        }
    }

    private Object callRecord(int which, Entry e, int b) {
        List<Entry> list = records();
        int at = list.indexOf(e);
        switch (which) {
            case 5: return e.end() <= forced ? 0 : write(e.end());
            case 7: {
                if (e.end() > forced) return STATE;
                int words = e.serial - first;
                first = e.serial;
                entries.removeIf(other -> other.serial < first);
                return words;
            }
            case 11: return serialOf(list, at + 1);
            case 12: return serialOf(list, at - 1);
            case 14:
                if (b < 0 || b > 4) return INDEX;
                return new int[] {e.kind, e.owner, e.previous, e.link, e.content.length}[b];
            default: return b < 0 || b >= e.content.length ? INDEX : (Object) e.content[b];
        }
    }

    private Object append(int kind, int owner, int link, int n) {
        if (kind < 0 || kind > 15 || owner < 0 || owner > 7 || n < 0 || n > 200) return ARGUMENT;
        if (link < -1 || link > end - 1) return ARGUMENT;
        if (end + n + 5 - first > 65536) return -1;
        Entry e = new Entry();
        e.serial = end;
        e.kind = kind;
        e.owner = owner;
        e.previous = lastOf(owner);
        e.link = link;
        e.content = java.util.Arrays.copyOf(buffer, n);
        entries.add(e);
        end = e.end();
        return e.serial;
    }

    private int open() {
        if (!entries.isEmpty()) {
            Entry e = entries.get(entries.size() - 1);
            if (e.end() > end) {
                e.isVoid = true;
                int words = write(e.end());
                isOpen = words != -1;
                end = forced;
                return words;
            }
        }
        isOpen = true;
        return 0;
    }

    /** Word by word, as the document tells it. */
    private int write(int to) {
        int words = 0;
        while (forced < to) {
            if (said == 0) {
                fail();
                return -1;
            }
            if (said > 0) said--;
            forced++;
            words++;
        }
        return words;
    }

    private void fail() {
        end = forced;
        said = -1;
        isOpen = false;
        buffer = new int[200];
        entries.removeIf(e -> e.serial >= end);
    }

    private List<Entry> records() {
        List<Entry> list = new ArrayList<>(entries);
        list.removeIf(e -> e.isVoid);
        return list;
    }

    private Entry find(int serial) {
        for (Entry e : records()) {
            if (e.serial == serial) return e;
        }
        return null;
    }

    private static int serialOf(List<Entry> list, int i) {
        return i >= 0 && i < list.size() ? list.get(i).serial : -1;
    }

    private int lastOf(int owner) {
        int serial = -1;
        for (Entry e : records()) {
            if (e.owner == owner) serial = e.serial;
        }
        return serial;
    }

    private int back(int owner, int kinds, int k) {
        List<Integer> met = new ArrayList<>();
        Entry e = find(lastOf(owner));
        while (e != null) {
            if (e.owner == owner && (kinds & (1 << e.kind)) != 0) met.add(e.serial);
            e = find(e.link == -1 ? e.previous : e.link);
        }
        return k < met.size() ? met.get(k) : -1;
    }
}
