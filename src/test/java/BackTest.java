/** Promise 16: back. */
public final class BackTest {
    private static final Due DUE = new Due();
    private static final int ALL = 65535;

    public static void main(String[] args) {
        wayByOwner();
        setOfKinds();
        links();
        linkToWhatIsNoRecord();
        linkToVoid();
        wayToWhatIsGivenBack();
        otherOwnersOnTheWay();
        wrongArguments();
        closedBook();
        DUE.end();
    }

    private static void backs(LogBook b, int owner, int kinds, int... want) {
        for (int k = 0; k < want.length; k++) {
            int at = k;
            DUE.is("back(" + owner + ", " + kinds + ", " + k + ")", want[k], () -> b.back(owner, kinds, at));
        }
        DUE.is("back(" + owner + ", " + kinds + ", " + want.length + ")", -1, () -> b.back(owner, kinds, want.length));
        DUE.is("back(" + owner + ", " + kinds + ", MAX)", -1, () -> b.back(owner, kinds, Integer.MAX_VALUE));
    }

    /** Records of 5 words each, at 0, 5, 10, ..: owner i % 2 and kind i % 3. */
    private static LogBook twoOwners() {
        LogBook b = new LogBook();
        for (int i = 0; i < 8; i++) {
            b.append(i % 3, i % 2, -1, 0);
        }
        return b;
    }

    private static void wayByOwner() {
        LogBook b = twoOwners();
        backs(b, 0, ALL, 30, 20, 10, 0);
        backs(b, 1, ALL, 35, 25, 15, 5);
        backs(b, 2, ALL);
    }

    private static void setOfKinds() {
        LogBook b = twoOwners();
        backs(b, 0, 1, 30, 0);
        backs(b, 0, 2, 20);
        backs(b, 0, 4, 10);
        backs(b, 0, 5, 30, 10, 0);
        backs(b, 0, 0);
        backs(b, 0, 8);
        backs(b, 0, 0x7fff0000);
        backs(b, 0, -1, 30, 20, 10, 0);
        backs(b, 0, Integer.MIN_VALUE | 2, 20);
        LogBook c = new LogBook();
        c.append(15, 7, -1, 0);
        backs(c, 7, 1 << 15, 0);
        backs(c, 7, Integer.MIN_VALUE);
        backs(c, 7, 1 << 14);
    }

    private static void links() {
        LogBook b = new LogBook();
        b.append(0, 0, -1, 0);
        b.append(1, 0, -1, 0);
        b.append(2, 0, -1, 0);
        b.append(3, 0, 5, 0);
        b.append(4, 0, -1, 0);
        backs(b, 0, ALL, 20, 15, 5, 0);
        backs(b, 0, 4);
        backs(b, 0, 2, 5);
        LogBook c = new LogBook();
        c.append(0, 0, -1, 0);
        c.append(0, 0, 0, 0);
        c.append(0, 0, 0, 0);
        backs(c, 0, ALL, 10, 0);
    }

    private static void linkToWhatIsNoRecord() {
        LogBook b = new LogBook();
        b.append(0, 0, -1, 3);
        b.append(0, 0, 7, 0);
        b.append(0, 0, -1, 0);
        backs(b, 0, ALL, 13, 8);
    }

    private static void linkToVoid() {
        LogBook b = new LogBook();
        b.append(0, 0, -1, 0);
        b.append(0, 0, -1, 0);
        b.cutAfter(7);
        b.forceAll();
        b.open();
        b.append(0, 0, 5, 0);
        b.append(0, 1, -1, 0);
        b.append(0, 1, 0, 0);
        backs(b, 0, ALL, 10);
        b.append(0, 0, -1, 0);
        backs(b, 0, ALL, 25, 10);
    }

    private static void wayToWhatIsGivenBack() {
        LogBook b = twoOwners();
        b.forceAll();
        b.giveBack(15);
        backs(b, 0, ALL, 30, 20);
        backs(b, 1, ALL, 35, 25, 15);
        b.append(0, 1, 5, 0);
        backs(b, 1, ALL, 40);
    }

    /** The way goes on over another owner's records, by what is written there. */
    private static void otherOwnersOnTheWay() {
        LogBook b = new LogBook();
        b.append(0, 0, -1, 0);
        b.append(1, 1, 0, 0);
        b.append(2, 1, -1, 0);
        b.append(3, 0, -1, 0);
        b.append(4, 0, 10, 0);
        backs(b, 0, ALL, 20, 0);
        backs(b, 0, 6);
        backs(b, 1, ALL, 10, 5);
    }

    private static void wrongArguments() {
        LogBook b = twoOwners();
        for (int wrong : new int[] {-1, Integer.MIN_VALUE}) {
            DUE.fails("back(0, ALL, " + wrong + ")", IllegalArgumentException.class, () -> b.back(0, ALL, wrong));
            DUE.fails("back(" + wrong + ", ALL, 0)", IllegalArgumentException.class, () -> b.back(wrong, ALL, 0));
        }
        DUE.fails("back(8, ALL, 0)", IllegalArgumentException.class, () -> b.back(8, ALL, 0));
        DUE.fails("back(MAX, ALL, 0)", IllegalArgumentException.class, () -> b.back(Integer.MAX_VALUE, ALL, 0));
    }

    private static void closedBook() {
        LogBook b = twoOwners();
        b.forceAll();
        b.cut();
        DUE.fails("back(0, ALL, 0)", IllegalStateException.class, () -> b.back(0, ALL, 0));
        DUE.fails("back(8, ALL, -1)", IllegalStateException.class, () -> b.back(8, ALL, -1));
    }
}
