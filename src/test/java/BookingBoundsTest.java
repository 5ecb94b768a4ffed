/** The bounds that section 3 of the document names: what a WEEK's end books, 20,000 BOOKINGS, TABLES and WORTH. */
public final class BookingBoundsTest {
    private static final int NONE = BreadBox.NONE;
    private static final int NO_COINS = -1_000_000;

    private static final Checks CHECKS = new Checks();

    public static void main(String[] args) {
        nobodyAndNothing();
        everyWeekUpToNow();
        lastWeekThatEnds();
        membersInOrder();
        onlyWhatIsOther();
        onlyWhatIsOtherOnTheWhole();
        differencesBelowZero();
        payingInTheSameWeek();
        outAnew();
        boxOnEachSideOfZero();
        oneBookingShortOfAll();
        theLastBooking();
        oneBookingTooMany();
        refusedWeekMayBeMended();
        tablesAtFirst();
        tableOfNinetyNine();
        tableOfTheLastYear();
        agesByFullYears(0);
        agesByFullYears(3);
        worthByRulesOfNow();
        nobodyLiving();
        lowestTerms();
        greatestAndLeastWorth();
        CHECKS.end("BookingBoundsTest");
    }

    private static void entry(String call, BreadBox box, int i, int... due) {
        for (int what = 0; what < 4; what++) {
            CHECKS.due(call + ": entry " + i + ", " + what, box.entry(i, what), due[what]);
        }
    }

    private static void nobodyAndNothing() {
        BreadBox box = new BreadBox();
        CHECKS.due("nobody", box.week(), 0);
        box.join(30, 0);
        CHECKS.due("nobody is sick", box.week(), 0);
        box.paper(0, 14, 16);
        CHECKS.due("WAITING days alone", box.week(), 0);
        box.paper(0, 21, 21);
        CHECKS.due("one DAY more", box.week(), 1);
        entry("one DAY more", box, 0, 3, 3, 0, 12);
        CHECKS.due("NOW", box.count(0), 4);
    }

    private static void everyWeekUpToNow() {
        BreadBox box = Boxes.withoutWaiting(1, 3);
        box.paper(0, 0, 27);
        CHECKS.due("WEEKS 0 to 3", box.week(), 4);
        for (int w = 0; w < 4; w++) {
            entry("WEEK " + w, box, w, 3, w, 0, 84);
        }
        CHECKS.due("none behind", box.entry(4, 0), NO_COINS);
        box.rule(Boxes.WHOLE, 0, 11);
        CHECKS.due("all anew", box.week(), 4);
        entry("WEEK 0 anew", box, 4, 4, 0, 0, -7);
        entry("WEEK 3 anew", box, 7, 4, 3, 0, -7);
    }

    private static void lastWeekThatEnds() {
        BreadBox box = Boxes.withoutWaiting(1, 299);
        box.paper(0, 0, 0);
        box.paper(0, 2093, 2099);
        CHECKS.due("WEEK 299 ends", box.week(), 2);
        entry("WEEK 0", box, 0, 299, 0, 0, 12);
        entry("WEEK 299", box, 1, 299, 299, 0, 84);
        box.paper(0, 2100, 2106);
        box.rule(Boxes.WHOLE, 0, 100);
        CHECKS.due("WEEK 300 does not end", box.week(), NONE);
        CHECKS.due("nothing is BOOKED", box.count(4), 2);
        CHECKS.due("as it was", box.booked(0, 299), 84);
        CHECKS.due("nothing is BOOKED for WEEK 300", box.booked(0, 300), 0);
        CHECKS.due("though it would be", box.grant(0, 300, 300), 700);
    }

    private static void membersInOrder() {
        BreadBox box = Boxes.withoutWaiting(40, 1);
        for (int m = 39; m >= 0; m--) {
            box.paper(m, 6, 7);
        }
        CHECKS.due("BOOKED", box.week(), 80);
        for (int i = 0; i < 80; i++) {
            CHECKS.due("for which WEEK, " + i, box.entry(i, 1), i / 40);
            CHECKS.due("which MEMBER, " + i, box.entry(i, 2), i % 40);
        }
    }

    private static void onlyWhatIsOther() {
        BreadBox box = Boxes.withoutWaiting(2, 1);
        box.paper(0, 0, 13);
        box.paper(1, 7, 13);
        CHECKS.due("BOOKED", box.week(), 3);
        CHECKS.due("nothing new", box.week(), 0);
        box.rule(Boxes.WHOLE, 1, 12);
        CHECKS.due("the same again", box.week(), 0);
        box.paper(0, 3, 5);
        CHECKS.due("DAYS that were SICK", box.week(), 0);
        box.rule(Boxes.WHOLE, 2, 99);
        CHECKS.due("a WEEK without SICK DAYS", box.week(), 0);
        box.rule(Boxes.WHOLE, 1, 13);
        CHECKS.due("one WEEK of both", box.week(), 2);
        CHECKS.due("NOW", box.count(0), 7);
        entry("by one coin a DAY", box, 3, 6, 1, 0, 7);
        entry("by one coin a DAY", box, 4, 6, 1, 1, 7);
    }

    /** One WEEK's GRANT stays the same though its DAYS change; a change that is undone ere the WEEK ends is none. */
    private static void onlyWhatIsOtherOnTheWhole() {
        BreadBox box = Boxes.withoutWaiting(1, 1);
        box.paper(0, 0, 2);
        CHECKS.due("BOOKED", box.week(), 1);
        box.back(0);
        box.paper(0, 4, 6);
        CHECKS.due("other DAYS, as much", box.week(), 0);
        box.rule(Boxes.WHOLE, 0, 50);
        box.rule(Boxes.WHOLE, 0, 12);
        CHECKS.due("undone in one WEEK", box.week(), 0);
        box.back(1);
        box.paper(0, 4, 6);
        CHECKS.due("taken back and told again", box.week(), 0);
        CHECKS.due("one BOOKING in all", box.count(4), 1);
    }

    private static void differencesBelowZero() {
        BreadBox box = Boxes.withoutWaiting(1, 1);
        box.paper(0, 0, 6);
        box.week();
        box.rule(Boxes.WHOLE, 0, 11);
        CHECKS.due("less", box.week(), 1);
        entry("less", box, 1, 2, 0, 0, -7);
        box.back(0);
        CHECKS.due("to nothing", box.week(), 1);
        entry("to nothing", box, 2, 3, 0, 0, -77);
        CHECKS.due("nothing", box.booked(0, 0), 0);
        CHECKS.due("the BOX", box.count(5), 0);
        CHECKS.due("nothing is below nothing", box.week(), 0);
        box.paper(0, 0, 0);
        CHECKS.due("from nothing", box.week(), 1);
        entry("from nothing", box, 3, 5, 0, 0, 11);
    }

    /** A payment counts for the WEEK in which it is paid, whether the PAPER was told first or not. */
    private static void payingInTheSameWeek() {
        for (int order = 0; order < 3; order++) {
            BreadBox box = new BreadBox();
            box.join(30, 0);
            box.rule(Boxes.TILL_OUT, 0, 0);
            box.week();
            if (order == 0) {
                box.pay(0, 4);
            }
            box.paper(0, 7, 13);
            if (order == 1) {
                box.pay(0, 4);
            }
            CHECKS.due("BOOKED, order " + order, box.week(), order == 2 ? 0 : 1);
            box.pay(0, 100);
            CHECKS.due("paid later, order " + order, box.week(), 0);
            CHECKS.due("for that WEEK, order " + order, box.booked(0, 1), order == 2 ? 0 : 48);
        }
    }

    private static void outAnew() {
        BreadBox box = new BreadBox();
        box.join(30, 0);
        box.week();
        box.paper(0, 0, 13);
        CHECKS.due("BOOKED", box.week(), 2);
        box.rule(Boxes.TILL_OUT, 0, 0);
        CHECKS.due("OUT in WEEK 1", box.week(), 1);
        entry("OUT in WEEK 1", box, 2, 2, 1, 0, -84);
        box.rule(Boxes.TILL_OUT, 0, 1);
        CHECKS.due("not OUT", box.week(), 1);
        entry("not OUT", box, 3, 3, 1, 0, 84);
        box.rule(Boxes.DUE, 1, 3);
        CHECKS.due("4 is more than 3", box.week(), 1);
        entry("4 is more than 3", box, 4, 4, 1, 0, -84);
    }

    private static void boxOnEachSideOfZero() {
        BreadBox box = Boxes.withoutWaiting(2, 0);
        CHECKS.due("the BOX at first", box.count(5), 0);
        box.paper(0, 0, 0);
        box.paper(1, 0, 0);
        box.week();
        CHECKS.due("nothing was paid", box.count(5), -24);
        box.pay(0, 23);
        CHECKS.due("one short", box.count(5), -1);
        box.pay(1, 1);
        CHECKS.due("as much", box.count(5), 0);
        box.pay(0, 1);
        CHECKS.due("one more", box.count(5), 1);
        box.back(0);
        CHECKS.due("not BOOKED yet", box.count(5), 1);
        box.week();
        CHECKS.due("BOOKED", box.count(5), 13);
        CHECKS.due("paid", box.count(7), 25);
    }

    private static void oneBookingShortOfAll() {
        BreadBox box = Boxes.ledgerWithOnePlace();
        CHECKS.due("BOOKINGS", box.count(4), 19_999);
        CHECKS.due("NOW", box.count(0), 68);
        CHECKS.due("a WEEK with nothing to book", box.week(), 0);
        CHECKS.due("the last one", box.entry(19_998, 1), 66);
        CHECKS.due("none behind", box.entry(19_999, 1), NO_COINS);
    }

    private static void theLastBooking() {
        BreadBox box = Boxes.ledgerWithOnePlace();
        box.paper(0, 7 * 67, 7 * 67);
        CHECKS.due("one more is 20,000", box.week(), 1);
        CHECKS.due("BOOKINGS", box.count(4), 20_000);
        CHECKS.due("NOW", box.count(0), 69);
        CHECKS.due("its WEEK", box.entry(19_999, 0), 68);
        CHECKS.due("for which", box.entry(19_999, 1), 67);
        CHECKS.due("none behind", box.entry(20_000, 0), NO_COINS);
        CHECKS.due("a WEEK with nothing to book", box.week(), 0);
        box.paper(0, 7 * 68, 7 * 68);
        CHECKS.due("one more is too many", box.week(), NONE);
        CHECKS.due("NOW", box.count(0), 70);
    }

    private static void oneBookingTooMany() {
        BreadBox box = Boxes.ledgerWithOnePlace();
        int left = box.count(5);
        box.paper(0, 7 * 67, 7 * 67);
        box.paper(1, 7 * 68, 7 * 68);
        CHECKS.due("two more are 20,001", box.week(), NONE);
        CHECKS.due("not one of them is BOOKED", box.count(4), 19_999);
        CHECKS.due("nor for its WEEK", box.booked(0, 67) + box.booked(1, 68), 0);
        CHECKS.due("the BOX", box.count(5), left);
        CHECKS.due("NOW", box.count(0), 68);
        CHECKS.due("no BOOKING behind", box.entry(19_999, 0), NO_COINS);
        CHECKS.due("refused again", box.week(), NONE);
    }

    private static void refusedWeekMayBeMended() {
        BreadBox box = Boxes.ledgerWithOnePlace();
        int paper = box.paper(0, 7 * 67, 7 * 67);
        box.paper(1, 7 * 68, 7 * 68);
        box.pay(2, 5);
        CHECKS.due("two too many", box.week(), NONE);
        CHECKS.yes("one is taken back", box.back(paper));
        CHECKS.due("one is not", box.week(), 1);
        CHECKS.due("BOOKINGS", box.count(4), 20_000);
        CHECKS.due("whose", box.entry(19_999, 2), 1);
        CHECKS.due("for which WEEK", box.entry(19_999, 1), 68);
        CHECKS.due("its payment was of WEEK 68", box.arrears(2, 68, 69), -5);
        CHECKS.due("and not of the one ahead", box.arrears(2, 67, 69), 0);
    }

    /** WORTH written out once more, of the TABLES as at first, WHOLE 12 and DUE 4. */
    private static long sumAtFirst(int age, int years) {
        long sum = 0;
        for (int x = age; x < age + years; x++) {
            long living = x <= 99 ? 1000 - 10 * x : 0;
            long sick = x <= 99 ? x / 4 : 0;
            sum += living * (sick * 12 - 52 * 4);
        }
        return sum;
    }

    private static void worthIs(String call, BreadBox box, int member, int years, long sum, long living) {
        long top = box.worth(member, years, 0);
        long bottom = box.worth(member, years, 1);
        CHECKS.due(call + ", " + years + " years", top * living, sum * bottom);
        CHECKS.yes(call + ": above 0", bottom > 0);
    }

    private static void tablesAtFirst() {
        int[] ages = {16, 17, 18, 19, 20, 30, 49, 50, 51, 59, 60};
        for (int age : ages) {
            BreadBox box = new BreadBox();
            box.join(age, 0);
            for (int years = 1; years <= 50; years++) {
                worthIs("AGE " + age, box, 0, years, sumAtFirst(age, years), 1000 - 10 * age);
            }
        }
        BreadBox box = new BreadBox();
        box.join(60, 0);
        CHECKS.due("40 years are all", box.worth(0, 40, 0), box.worth(0, 41, 0));
        CHECKS.due("40 years are all", box.worth(0, 40, 0), box.worth(0, 50, 0));
        CHECKS.other("39 are not", box.worth(0, 39, 0) * box.worth(0, 40, 1), box.worth(0, 40, 0) * box.worth(0, 39, 1));
    }

    private static void tableOfNinetyNine() {
        BreadBox box = new BreadBox();
        box.join(60, 0);
        CHECKS.yes("99", box.table(99, 1000, 365));
        CHECKS.no("100", box.table(100, 1000, 365));
        worthIs("98", box, 0, 39, sumAtFirst(60, 39), 400);
        worthIs("99", box, 0, 40, sumAtFirst(60, 39) + 1000L * (365 * 12 - 208), 400);
        worthIs("100", box, 0, 41, sumAtFirst(60, 39) + 1000L * (365 * 12 - 208), 400);
    }

    private static void tableOfTheLastYear() {
        BreadBox box = new BreadBox();
        box.join(30, 0);
        box.table(35, 1000, 100);
        worthIs("t up to 4", box, 0, 5, sumAtFirst(30, 5), 700);
        worthIs("t up to 5", box, 0, 6, sumAtFirst(30, 5) + 1000L * (1200 - 208), 700);
        box.table(29, 1, 100);
        worthIs("none ahead of its AGE", box, 0, 5, sumAtFirst(30, 5), 700);
        box.table(30, 0, 0);
        box.table(30, 700, 7);
        worthIs("as at first again", box, 0, 5, sumAtFirst(30, 5), 700);
    }

    private static void agesByFullYears(int joined) {
        BreadBox box = new BreadBox();
        Boxes.weeks(box, joined);
        box.join(60, 0);
        for (int since = 0; joined + since <= 300; since++) {
            int age = since < 52 ? 60 : since < 104 ? 61 : since < 156 ? 62 : since < 208 ? 63 : since < 260 ? 64 : 65;
            if (since % 52 < 2 || since % 52 > 50 || joined + since == 300) {
                worthIs(since + " WEEKS", box, 0, 2, sumAtFirst(age, 2), 1000 - 10 * age);
            }
            box.week();
        }
    }

    private static void worthByRulesOfNow() {
        BreadBox box = new BreadBox();
        box.join(40, 0);
        Boxes.weeks(box, 5);
        box.rule(Boxes.WHOLE, 6, 99);
        box.rule(Boxes.DUE, 6, 99);
        CHECKS.due("from the next WEEK on: not yet", box.worth(0, 1, 0), 10 * 12 - 52 * 4);
        box.rule(Boxes.WHOLE, 5, 30);
        CHECKS.due("WHOLE from this WEEK on, told in it", box.worth(0, 1, 0), 10 * 30 - 52 * 4);
        box.rule(Boxes.DUE, 5, 5);
        CHECKS.due("DUE from this WEEK on, told in it", box.worth(0, 1, 0), 10 * 30 - 52 * 5);
        box.week();
        CHECKS.due("in the next WEEK", box.worth(0, 1, 0), 10 * 99 - 52 * 99);
    }

    private static void nobodyLiving() {
        BreadBox box = new BreadBox();
        box.join(30, 0);
        box.table(31, 0, 100);
        worthIs("nobody a year older", box, 0, 2, sumAtFirst(30, 1), 700);
        box.table(30, 1, 100);
        CHECKS.due("one", box.worth(0, 1, 0), 1200 - 208);
        CHECKS.due("one", box.worth(0, 1, 1), 1);
        box.table(30, 0, 100);
        CHECKS.due("nobody", box.worth(0, 1, 0), NO_COINS);
        CHECKS.due("nobody", box.worth(0, 50, 1), NO_COINS);
        box.table(30, 1, 0);
        CHECKS.due("one again", box.worth(0, 1, 0), -208);
        Boxes.weeks(box, 51);
        CHECKS.due("30 still", box.worth(0, 1, 0), -208);
        box.week();
        CHECKS.due("31, and nobody is LIVING", box.worth(0, 1, 0), NO_COINS);
        CHECKS.yes("31", box.table(31, 2, 100));
        CHECKS.due("31, and two are", box.worth(0, 1, 0), 992);
    }

    private static void lowestTerms() {
        BreadBox box = new BreadBox();
        box.join(30, 0);
        box.rule(Boxes.DUE, 0, 0);
        box.rule(Boxes.WHOLE, 0, 1);
        box.table(30, 1000, 0);
        CHECKS.due("0 by 1", box.worth(0, 1, 0), 0);
        CHECKS.due("0 by 1", box.worth(0, 1, 1), 1);
        box.table(31, 1, 1);
        CHECKS.due("1 by 1,000", box.worth(0, 2, 0), 1);
        CHECKS.due("1 by 1,000", box.worth(0, 2, 1), 1000);
        box.table(31, 999, 1);
        CHECKS.due("999 by 1,000", box.worth(0, 2, 0), 999);
        CHECKS.due("999 by 1,000", box.worth(0, 2, 1), 1000);
        box.table(31, 500, 1);
        CHECKS.due("1 by 2", box.worth(0, 2, 0), 1);
        CHECKS.due("1 by 2", box.worth(0, 2, 1), 2);
        box.table(31, 1000, 3);
        CHECKS.due("3 by 1", box.worth(0, 2, 0), 3);
        CHECKS.due("3 by 1", box.worth(0, 2, 1), 1);
        box.rule(Boxes.DUE, 0, 1);
        box.table(30, 1000, 52);
        box.table(31, 750, 51);
        CHECKS.due("-3 by 4", box.worth(0, 2, 0), -3);
        CHECKS.due("-3 by 4", box.worth(0, 2, 1), 4);
        box.table(31, 750, 52);
        CHECKS.due("as much as is due: 0 by 1", box.worth(0, 2, 0), 0);
        CHECKS.due("as much as is due: 0 by 1", box.worth(0, 2, 1), 1);
    }

    private static void greatestAndLeastWorth() {
        BreadBox box = new BreadBox();
        box.join(16, 0);
        box.rule(Boxes.DUE, 0, 0);
        box.rule(Boxes.WHOLE, 0, 100);
        box.table(16, 1, 365);
        for (int age = 17; age < 66; age++) {
            box.table(age, 1000, 365);
        }
        CHECKS.due("greatest", box.worth(0, 50, 0), 36_500L + 49L * 36_500_000);
        box.table(16, 999, 365);
        CHECKS.due("greatest numerator", box.worth(0, 50, 0), 999L * 36_500 + 49L * 36_500_000);
        CHECKS.due("its denominator", box.worth(0, 50, 1), 999);
        box.rule(Boxes.DUE, 0, 100);
        box.rule(Boxes.WHOLE, 0, 0);
        box.table(16, 1, 0);
        CHECKS.due("least", box.worth(0, 50, 0), -5_200L - 49L * 5_200_000);
        CHECKS.due("by 1", box.worth(0, 50, 1), 1);
    }
}
