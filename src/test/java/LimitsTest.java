import java.lang.management.ManagementFactory;

/** The limits that need a long run: 20,000 BOOKINGS, and the room that the dearest runs take. */
public final class LimitsTest {
    private static final Checks CHECKS = new Checks();
    private static final long MOST_BYTES = 2_000_000;

    public static void main(String[] args) {
        bookedEachWeek();
        mostBookings();
        refusedWeekChangesNothing();
        roomOfManyQuestions();
        CHECKS.end("LimitsTest");
    }

    private static void bookedEachWeek() {
        BreadBox box = Boxes.allSick(399);
        CHECKS.due("7: all", box.week(), 2320);
        box.rule(2, 0, 16);
        CHECKS.due("7: all anew", box.week(), 2320);
        box.rule(2, 22, 100);
        CHECKS.due("7: the last 36 weeks", box.week(), 1440);
    }

    private static void mostBookings() {
        long before = allocated();
        BreadBox box = Boxes.fullLedger();
        long after = allocated();
        CHECKS.yes("room: " + (after - before) + " bytes", after - before < MOST_BYTES);
        CHECKS.due("7: bookings", box.count(4), 20_000);
        CHECKS.due("7: now", box.count(0), 67);
        CHECKS.due("16: the last one", box.entry(19_999, 0), 66);
        CHECKS.due("16: the last one", box.entry(19_999, 1), 57);
        CHECKS.due("16: the last one", box.entry(19_999, 2), 39);
        CHECKS.due("16: the last one", box.entry(19_999, 3), 25 - 10);
        CHECKS.due("16: none behind", box.entry(20_000, 0), -1_000_000);
        int sum = 0;
        for (int w = 0; w < 58; w++) {
            sum += box.booked(17, w);
        }
        CHECKS.due("18: a lodge", box.lodge(1, 2), 10 * sum);
        CHECKS.due("21: the box", box.count(5), -40 * sum);
        CHECKS.due("7: a week with nothing to book", box.week(), 0);
    }

    private static void refusedWeekChangesNothing() {
        BreadBox box = Boxes.fullLedger();
        box.pay(5, 7);
        CHECKS.due("7: a sick week more", box.paper(5, 413, 413), 40);
        box.rule(1, 59, 0);
        box.rule(5, 59, 0);
        CHECKS.due("10: its grant", box.grant(5, 59, 67), 100);
        CHECKS.due("7: one too many", box.week(), BreadBox.NONE);
        CHECKS.yes("7: it is taken back", box.back(40));
        box.rule(2, 57, 96);
        CHECKS.due("7: forty too many", box.week(), BreadBox.NONE);
        CHECKS.due("7: now", box.count(0), 67);
        CHECKS.due("7: bookings", box.count(4), 20_000);
        CHECKS.due("7: booked", box.booked(3, 57), 25);
        CHECKS.due("10: though due", box.grant(3, 57, 67), 24);
        CHECKS.due("7: once more", box.week(), BreadBox.NONE);
        CHECKS.due("12: paid in this week", box.arrears(5, 67, 67), -7);
        CHECKS.due("12: and not ahead of it", box.arrears(5, 66, 67), 0);
        box.rule(2, 57, 100);
        CHECKS.due("7: as it was", box.week(), 0);
        CHECKS.due("7: now", box.count(0), 68);
        CHECKS.due("19: paid", box.member(5, 3), 7);
    }

    /** Questions make no objects: a run of any of them takes no more room than the object itself. */
    private static void roomOfManyQuestions() {
        BreadBox box = Boxes.allSick(399);
        box.week();
        long before = allocated();
        long sum = 0;
        for (int i = 0; i < 40; i++) {
            int m = i % 40;
            int w = i % 59;
            sum += box.grant(m, w, 59) + box.day(m, i, 58) + box.arrears(m, w, i % 60) + box.what(m, w, 2, w, i % 100);
            sum += box.worth(m, 1 + i % 50, 0) + box.count(i % 8) + box.lodge(i % 4, i % 3) + box.force(i % 7, i, w);
            sum += box.out(m, w, w) ? 1 : 0;
        }
        long after = allocated();
        CHECKS.yes("room: " + (after - before) + " bytes, sum " + sum, after - before < 20_000);
    }

    private static long allocated() {
        com.sun.management.ThreadMXBean bean = (com.sun.management.ThreadMXBean) ManagementFactory.getThreadMXBean();
        return bean.getThreadAllocatedBytes(Thread.currentThread().getId());
    }
}
