/** Societies that many tests begin with. */
final class Boxes {
    static final int DUE = 0;
    static final int WAITING = 1;
    static final int WHOLE = 2;
    static final int WHOLE_DAYS = 3;
    static final int HALF_DAYS = 4;
    static final int JOINING = 5;
    static final int TILL_OUT = 6;
    /** By kind of RULE. */
    static final int[] LEAST_VALUE = {0, 0, 0, 1, 0, 0, 0};
    static final int[] MOST_VALUE = {100, 14, 100, 400, 400, 400, 50};
    static final int[] AT_FIRST = {4, 3, 12, 30, 60, 28, 8};

    private Boxes() {
    }

    static void weeks(BreadBox box, int n) {
        for (int i = 0; i < n; i++) {
            box.week();
        }
    }

    /** MEMBERS who JOINED at once, n WEEKS on; nothing is DUE, so nobody is ever OUT. */
    static BreadBox withoutDues(int members, int n) {
        BreadBox box = new BreadBox();
        for (int m = 0; m < members; m++) {
            box.join(30, m % 4);
        }
        box.rule(DUE, 0, 0);
        weeks(box, n);
        return box;
    }

    /** The same, with no WAITING days: each of the first 30 SICK DAYS gives 12 coins. */
    static BreadBox withoutWaiting(int members, int n) {
        BreadBox box = withoutDues(members, n);
        box.rule(WAITING, 0, 0);
        return box;
    }

    /** What day() answers for DAYS first to last, one sign each. */
    static String natures(BreadBox box, int member, int first, int last, int q) {
        StringBuilder signs = new StringBuilder();
        for (int day = first; day <= last; day++) {
            signs.append(box.day(member, day, q));
        }
        return signs.toString();
    }

    /**
     * Forty MEMBERS, sick for 400 days from WEEK 0 on and nobody ever OUT: 58 WEEKS with a GRANT each. NOW is 58. The
     * last one's PAPER may be shorter.
     */
    static BreadBox allSick(int lastDayOfLastOne) {
        BreadBox box = withoutDues(40, 58);
        for (int m = 0; m < 40; m++) {
            box.paper(m, 0, m < 39 ? 399 : lastDayOfLastOne);
        }
        return box;
    }

    /** Books all GRANTS of allSick() eight times, and those from WEEK 22 on once more; NOW is 67. */
    static BreadBox bookedAnew(int lastDayOfLastOne) {
        BreadBox box = allSick(lastDayOfLastOne);
        box.week();
        for (int i = 1; i < 8; i++) {
            box.rule(WHOLE, 0, 12 + 4 * i);
            box.week();
        }
        box.rule(WHOLE, 22, 100);
        box.week();
        return box;
    }

    /** 8 times 2,320 BOOKINGS and 1,440: all 20,000. NOW is 67. */
    static BreadBox fullLedger() {
        return bookedAnew(399);
    }

    /**
     * 8 times 2,319 BOOKINGS, 1,439, and 8 for one sick DAY in each of eight WEEKS: 19,999. NOW is 68, and no DAY of
     * WEEKS 67 and 68 is SICK; each that will be is of an old ILLNESS and gives a quarter.
     */
    static BreadBox ledgerWithOnePlace() {
        BreadBox box = bookedAnew(398);
        box.rule(JOINING, 59, 400);
        for (int w = 59; w < 67; w++) {
            box.paper(39, 7 * w, 7 * w);
        }
        box.week();
        return box;
    }
}
