/** All promises: long runs of calls of every kind, each answer compared with BookModel's. */
public final class ModelTest {
    private static final int RUNS = 3000;
    private static final int CALLS = 512;
    private static final int[] ODD = {-2, -1, 0, 1, 2, 5, 7, 8, 15, 16, 199, 200, 201, 65535, 65536,
        Integer.MIN_VALUE, Integer.MAX_VALUE};

    private static int wrong = 0;
    private long seed;
    private final LogBook book = new LogBook();
    private final BookModel model = new BookModel();
    private final int[] serials = new int[CALLS + 1];
    private int serialCount = 1;
    private final int style;

    private ModelTest(int run) {
        seed = run * 7919L + 17;
        style = run % 5;
    }

    public static void main(String[] args) {
        long calls = 0;
        for (int run = 0; run < RUNS && wrong == 0; run++) {
            ModelTest test = new ModelTest(run);
            int made = test.style == 4 ? test.goNearTheRingsEnd(run) : 0;
            for (int i = made; i < CALLS && wrong == 0; i++) {
                test.step(run, i);
            }
            calls += CALLS;
        }
        System.out.println(calls + " calls compared, " + wrong + " not as due");
        if (wrong != 0) System.exit(1);
    }

    /** A plain congruential row: the same runs each time. */
    private int below(int n) {
        seed = seed * 6364136223846793005L + 1442695040888963407L;
        return (int) ((seed >>> 33) % n);
    }

    private int odd() {
        return ODD[below(ODD.length)];
    }

    private int serial() {
        int dice = below(12);
        if (dice == 0) return odd();
        if (dice == 1) return serials[below(serialCount)] + 1 + below(9);
        if (dice < 8) return serials[Math.max(0, serialCount - 1 - below(6))];
        return serials[below(serialCount)];
    }

    private int small(int limit) {
        return below(20) == 0 ? odd() : below(limit);
    }

    /** Style 4 begins some words before 65536, with a few records left: how many calls that took. */
    private int goNearTheRingsEnd(int run) {
        for (int i = 0; i < 319; i++) {
            compare(run, i, 4, i % 16, i % 3, -1, 200);
        }
        compare(run, 319, 4, 0, 0, -1, 90 + below(45));
        compare(run, 320, 6, 0, 0, 0, 0);
        compare(run, 321, 7, (310 + below(10)) * 205, 0, 0, 0);
        return 322;
    }

    /** Style 1 and 3 fill the log to its room; 2 and more give back. */
    private int pick() {
        int dice = below(100);
        boolean large = style % 2 == 1;
        if (dice < (large ? 72 : 34)) return 4;
        if (dice >= 97 && style >= 2) return 7;
        int[] rest = {2, 3, 5, 5, 5, 6, 8, 9, 10, 11, 12, 13, 14, 14, 15, 15, 16, 16, 16, 17, 18, 18, 19, 19, 20, 21, 21, 21, 22};
        return rest[below(rest.length)];
    }

    private void step(int run, int i) {
        int which = pick();
        boolean large = style % 2 == 1;
        if (model.call(22, 0, 0, 0, 0).equals(0) && below(3) > 0) which = 21;
        if (large && (which == 20 || which == 19) && below(20) > 0) which = 6;
        int a = 0;
        int b = 0;
        int c = 0;
        int d = 0;
        switch (which) {
            case 2: a = small(200); b = below(1000); break;
            case 3: a = below(1000); b = below(10); break;
            case 4:
                a = small(16);
                b = small(3);
                c = below(3) == 0 ? serial() : -1;
                d = below(20) == 0 ? odd() : large ? 190 + below(11) : below(12);
                break;
            case 13: a = small(4); break;
            case 14: a = serial(); b = small(5); break;
            case 15: a = serial(); b = small(large ? 200 : 8); break;
            case 16: a = small(3); b = below(2) == 0 ? -1 : below(65536); c = small(8); break;
            case 18: a = small(3); break;
            case 19: a = below(5) == 0 ? odd() : below(30); break;
            default: a = serial(); break;
        }
        compare(run, i, which, a, b, c, d);
    }

    private void compare(int run, int i, int which, int a, int b, int c, int d) {
        Object want = model.call(which, a, b, c, d);
        Object got = call(which, a, b, c, d);
        if (which == 4 && got instanceof Integer s && s != -1) serials[serialCount++] = s;
        if (!want.equals(got)) {
            wrong++;
            System.out.println("run " + run + ", call " + i + ": promise " + which + " (" + a + ", " + b + ", "
                    + c + ", " + d + ") answered " + got + ", due is " + want);
        }
    }

    private Object call(int which, int a, int b, int c, int d) {
        try {
            return answer(which, a, b, c, d);
        } catch (RuntimeException e) {
            return e.getClass().getSimpleName();
        }
    }

    private int answer(int which, int a, int b, int c, int d) {
        switch (which) {
            case 2: book.set(a, b); return 0;
            case 3: book.fill(a, b); return 0;
            case 4: return book.append(a, b, c, d);
            case 5: return book.force(a);
            case 6: return book.forceAll();
            case 7: return book.giveBack(a);
            case 8: return book.first();
            case 9: return book.last();
            case 10: return book.lastForced();
            case 11: return book.next(a);
            case 12: return book.before(a);
            case 13: return book.lastOf(a);
            case 14: return book.of(a, b);
            case 15: return book.word(a, b);
            case 16: return book.back(a, b, c);
            case 17: return book.count();
            case 18: return book.log(a);
            case 19: book.cutAfter(a); return 0;
            case 20: return book.cut() ? 1 : 0;
            case 21: return book.open();
            default: return book.isOpen() ? 1 : 0;
        }
    }
}
