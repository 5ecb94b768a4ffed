/** The bounds that section 2 of the document names: ILLNESSES, their n-th DAYS, what is cut, ARREARS, who is OUT. */
public final class GrantBoundsTest {
    private static final Checks CHECKS = new Checks();

    public static void main(String[] args) {
        firstSickDayBegins();
        joiningDays(0);
        joiningDays(1);
        joiningDays(28);
        joiningDays(400);
        joiningDaysOfItsWeek();
        joiningByAPaperThatComesLate();
        illnessHasRulesOfItsFirstDaysWeek();
        illnessLosesItsFirstDay();
        daysAtFirst();
        fewestDays();
        mostDays();
        noHalfDays();
        eachDayIsCut();
        wholeOfTheDaysWeek();
        nothingWhenOut();
        daysWhenOutCount();
        daysWhenOutBeginAndJoin();
        duesFromJoinedToAheadOfW();
        duesAsInForceThen();
        paymentsUpToW();
        paymentsInTheFirstAndLastWeek();
        paymentsUpToQ();
        outIsMore();
        outByNothing();
        outByMost();
        outByRulesOfItsWeek();
        outAsKnown();
        outOneByOne();
        CHECKS.end("GrantBoundsTest");
    }

    private static void firstSickDayBegins() {
        for (int first = 0; first < 9; first++) {
            BreadBox box = Boxes.withoutDues(1, 3);
            box.rule(Boxes.JOINING, 0, 400);
            box.paper(0, first, first + 4);
            CHECKS.same("the first, DAY " + first, Boxes.natures(box, 0, first, first + 5, 3), "111220");
        }
    }

    private static void joiningDays(int joining) {
        BreadBox box = Boxes.withoutDues(2, 60);
        box.rule(Boxes.JOINING, 0, joining);
        box.paper(0, 0, 2);
        box.paper(0, 3 + joining, 3 + joining);
        CHECKS.due("as many between as JOINING " + joining, box.day(0, 3 + joining, 60), 2);
        box.paper(1, 0, 2);
        box.paper(1, 4 + joining, 4 + joining);
        CHECKS.due("one more between than JOINING " + joining, box.day(1, 4 + joining, 60), 1);
    }

    /** DAY 34 is the last of WEEK 4, DAY 35 the first of WEEK 5. */
    private static void joiningDaysOfItsWeek() {
        BreadBox box = Boxes.withoutDues(3, 8);
        box.rule(Boxes.JOINING, 5, 0);
        box.paper(0, 30, 32);
        box.paper(0, 34, 34);
        CHECKS.due("in the WEEK ahead of it 28", box.day(0, 34, 8), 2);
        box.paper(1, 30, 32);
        box.paper(1, 35, 35);
        CHECKS.due("in its own WEEK 0", box.day(1, 35, 8), 1);
        box.rule(Boxes.JOINING, 6, 28);
        box.paper(2, 38, 40);
        box.paper(2, 42, 42);
        CHECKS.due("not that of the DAY ahead", box.day(2, 42, 8), 2);
    }

    private static void joiningByAPaperThatComesLate() {
        BreadBox box = Boxes.withoutDues(1, 20);
        box.paper(0, 0, 2);
        box.paper(0, 50, 53);
        CHECKS.same("47 between: apart", Boxes.natures(box, 0, 50, 53, 20), "1112");
        box.paper(0, 25, 25);
        CHECKS.same("22 and 24 between: joined", Boxes.natures(box, 0, 50, 53, 20), "2222");
        CHECKS.due("the DAY amid", box.day(0, 25, 20), 2);
        box.back(2);
        CHECKS.same("apart once more", Boxes.natures(box, 0, 50, 53, 20), "1112");
    }

    private static void illnessHasRulesOfItsFirstDaysWeek() {
        BreadBox box = Boxes.withoutDues(2, 8);
        box.rule(Boxes.WAITING, 5, 0);
        box.rule(Boxes.WHOLE_DAYS, 5, 1);
        box.rule(Boxes.HALF_DAYS, 5, 1);
        box.paper(0, 34, 39);
        CHECKS.same("begun in the WEEK ahead", Boxes.natures(box, 0, 34, 39, 8), "111222");
        box.paper(1, 35, 39);
        CHECKS.same("begun on the WEEK's first DAY", Boxes.natures(box, 1, 35, 39, 8), "23444");
    }

    private static void illnessLosesItsFirstDay() {
        BreadBox box = Boxes.withoutDues(1, 8);
        box.rule(Boxes.WAITING, 5, 0);
        box.paper(0, 34, 34);
        box.paper(0, 35, 39);
        CHECKS.same("begun in the WEEK ahead", Boxes.natures(box, 0, 34, 39, 8), "111222");
        box.back(0);
        CHECKS.same("begins a DAY later", Boxes.natures(box, 0, 34, 39, 8), "022222");
    }

    /** The n-th SICK DAY is DAY n - 1. */
    private static void nthDays(String call, BreadBox box, int q, int[][] due) {
        for (int[] pair : due) {
            CHECKS.due(call + ", n " + pair[0], box.day(0, pair[0] - 1, q), pair[1]);
        }
    }

    private static void daysAtFirst() {
        BreadBox box = Boxes.withoutDues(1, 20);
        box.paper(0, 0, 120);
        nthDays("3, 30, 60", box, 20, new int[][] {{1, 1}, {3, 1}, {4, 2}, {33, 2}, {34, 3}, {93, 3}, {94, 4}, {121, 4}});
    }

    private static void fewestDays() {
        BreadBox box = Boxes.withoutDues(1, 20);
        box.rule(Boxes.WAITING, 0, 0);
        box.rule(Boxes.WHOLE_DAYS, 0, 1);
        box.rule(Boxes.HALF_DAYS, 0, 0);
        box.paper(0, 0, 120);
        nthDays("0, 1, 0", box, 20, new int[][] {{1, 2}, {2, 4}, {3, 4}, {121, 4}});
        CHECKS.due("0, 1, 0 in coins", box.grant(0, 0, 20), 12 + 6 * 3);
    }

    private static void mostDays() {
        BreadBox box = Boxes.withoutDues(1, 120);
        box.rule(Boxes.WAITING, 0, 14);
        box.rule(Boxes.WHOLE_DAYS, 0, 400);
        box.rule(Boxes.HALF_DAYS, 0, 400);
        box.paper(0, 400, 799);
        box.paper(0, 0, 399);
        box.paper(0, 800, 846);
        nthDays("14, 400, 400", box, 120,
            new int[][] {{1, 1}, {14, 1}, {15, 2}, {414, 2}, {415, 3}, {814, 3}, {815, 4}, {847, 4}});
        CHECKS.due("two WEEKS of nothing", box.grant(0, 0, 120) + box.grant(0, 1, 120), 0);
        CHECKS.due("WHOLE", box.grant(0, 2, 120), 84);
        CHECKS.due("WHOLE for one DAY, half for six", box.grant(0, 59, 120), 12 + 6 * 6);
        CHECKS.due("half for two DAYS, a quarter for five", box.grant(0, 116, 120), 2 * 6 + 5 * 3);
        CHECKS.due("a quarter", box.grant(0, 120, 120), 21);
    }

    private static void noHalfDays() {
        BreadBox box = Boxes.withoutDues(1, 20);
        box.rule(Boxes.HALF_DAYS, 0, 0);
        box.paper(0, 0, 40);
        nthDays("3, 30, 0", box, 20, new int[][] {{3, 1}, {4, 2}, {33, 2}, {34, 4}});
        box.rule(Boxes.HALF_DAYS, 0, 1);
        nthDays("3, 30, 1", box, 20, new int[][] {{33, 2}, {34, 3}, {35, 4}});
    }

    /** One WHOLE DAY, two half, four quarter ones, each cut by itself. */
    private static void eachDayIsCut() {
        int[][] due = {{0, 0}, {1, 1}, {2, 2 + 2}, {3, 3 + 2}, {4, 4 + 4 + 4}, {5, 5 + 4 + 4}, {6, 6 + 6 + 4},
            {7, 7 + 6 + 4}, {8, 8 + 8 + 8}, {11, 11 + 10 + 8}, {99, 99 + 98 + 96}, {100, 100 + 100 + 100}};
        for (int[] pair : due) {
            BreadBox box = Boxes.withoutWaiting(1, 2);
            box.rule(Boxes.WHOLE_DAYS, 0, 1);
            box.rule(Boxes.HALF_DAYS, 0, 2);
            box.rule(Boxes.WHOLE, 0, pair[0]);
            box.paper(0, 0, 6);
            CHECKS.same("DAYS, WHOLE " + pair[0], Boxes.natures(box, 0, 0, 6, 2), "2334444");
            CHECKS.due("WHOLE " + pair[0], box.grant(0, 0, 2), pair[1]);
            CHECKS.due("BOOKED if it is anything", box.week(), pair[1] == 0 ? 0 : 1);
        }
    }

    private static void wholeOfTheDaysWeek() {
        BreadBox box = Boxes.withoutWaiting(1, 8);
        box.rule(Boxes.WHOLE, 5, 20);
        box.rule(Boxes.WHOLE, 6, 30);
        box.paper(0, 34, 42);
        CHECKS.due("the WEEK ahead", box.grant(0, 4, 8), 12);
        CHECKS.due("from the WEEK on", box.grant(0, 5, 8), 7 * 20);
        CHECKS.due("the next one", box.grant(0, 6, 8), 30);
    }

    /** Whoever owes anything is OUT: in WEEK 0 nothing is owed, in WEEK 1 it is, in WEEK 2 it is paid. */
    private static BreadBox outInWeekOne() {
        BreadBox box = new BreadBox();
        box.join(30, 0);
        box.rule(Boxes.TILL_OUT, 0, 0);
        Boxes.weeks(box, 2);
        box.pay(0, 8);
        return box;
    }

    private static void nothingWhenOut() {
        BreadBox box = outInWeekOne();
        box.rule(Boxes.WAITING, 0, 0);
        box.paper(0, 0, 20);
        CHECKS.same("the WEEK's DAYS alone", Boxes.natures(box, 0, 5, 15, 2), "22555555522");
        CHECKS.due("ahead", box.grant(0, 0, 2), 84);
        CHECKS.due("OUT", box.grant(0, 1, 2), 0);
        CHECKS.due("behind", box.grant(0, 2, 2), 84);
        CHECKS.due("two are BOOKED", box.week(), 2);
    }

    private static void daysWhenOutCount() {
        BreadBox box = outInWeekOne();
        box.rule(Boxes.WAITING, 0, 5);
        box.rule(Boxes.WHOLE_DAYS, 0, 6);
        box.rule(Boxes.HALF_DAYS, 0, 2);
        box.paper(0, 5, 19);
        CHECKS.same("WAITING and WHOLE DAYS go by", Boxes.natures(box, 0, 4, 20, 2), "01155555552233440");
    }

    private static void daysWhenOutBeginAndJoin() {
        BreadBox box = outInWeekOne();
        box.rule(Boxes.JOINING, 0, 4);
        box.rule(Boxes.WHOLE_DAYS, 0, 1);
        box.paper(0, 9, 9);
        box.paper(0, 14, 16);
        CHECKS.same("it begins when OUT and is joined", Boxes.natures(box, 0, 9, 16, 2), "50000112");
        box.rule(Boxes.JOINING, 0, 3);
        CHECKS.same("it begins later", Boxes.natures(box, 0, 9, 16, 2), "50000111");
    }

    private static void duesFromJoinedToAheadOfW() {
        BreadBox box = new BreadBox();
        Boxes.weeks(box, 3);
        box.join(30, 0);
        Boxes.weeks(box, 3);
        int[] due = {0, 0, 0, 0, 4, 8, 12};
        for (int w = 0; w <= 6; w++) {
            CHECKS.due("JOINED in 3, w " + w, box.arrears(0, w, 6), due[w]);
            CHECKS.due("though it was not known, w " + w, box.arrears(0, w, 0), due[w]);
        }
    }

    private static void duesAsInForceThen() {
        BreadBox box = new BreadBox();
        Boxes.weeks(box, 3);
        box.join(30, 0);
        Boxes.weeks(box, 3);
        box.rule(Boxes.DUE, 6, 100);
        CHECKS.due("that of w is not due", box.arrears(0, 6, 6), 12);
        box.rule(Boxes.DUE, 5, 50);
        CHECKS.due("that of the WEEK ahead is", box.arrears(0, 6, 6), 8 + 50);
        CHECKS.due("not ahead of it", box.arrears(0, 5, 6), 8);
        box.rule(Boxes.DUE, 2, 70);
        box.rule(Boxes.DUE, 4, 4);
        CHECKS.due("JOINED's is due, none ahead of it", box.arrears(0, 4, 6), 70);
        box.rule(Boxes.DUE, 3, 4);
        CHECKS.due("none ahead of JOINED", box.arrears(0, 4, 6), 4);
        CHECKS.due("not as known ahead", box.arrears(0, 6, 5), 12);
    }

    private static void paymentsUpToW() {
        BreadBox box = new BreadBox();
        box.join(30, 0);
        Boxes.weeks(box, 3);
        box.pay(0, 5);
        Boxes.weeks(box, 3);
        CHECKS.due("ahead of it", box.arrears(0, 2, 6), 8);
        CHECKS.due("in its WEEK", box.arrears(0, 3, 6), 12 - 5);
        CHECKS.due("behind", box.arrears(0, 4, 6), 16 - 5);
        CHECKS.due("NOW", box.arrears(0, 6, 6), 24 - 5);
        box.pay(0, 1);
        box.pay(0, 1);
        CHECKS.due("two in this WEEK", box.arrears(0, 6, 6), 24 - 7);
        CHECKS.due("not in the one ahead", box.arrears(0, 5, 6), 20 - 5);
    }

    private static void paymentsInTheFirstAndLastWeek() {
        BreadBox box = new BreadBox();
        box.join(30, 0);
        CHECKS.due("WEEK 0", box.pay(0, 5), -5);
        box.week();
        CHECKS.due("paid in WEEK 0", box.arrears(0, 1, 1), 4 - 5);
        CHECKS.due("as known in WEEK 0", box.arrears(0, 1, 0), 4 - 5);
        Boxes.weeks(box, 298);
        CHECKS.due("WEEK 299", box.pay(0, 6), 4 * 299 - 11);
        box.week();
        CHECKS.due("paid in WEEK 299", box.arrears(0, 300, 300), 4 * 300 - 11);
        CHECKS.due("WEEK 300", box.pay(0, 7), 4 * 300 - 18);
        CHECKS.due("not in WEEK 299", box.arrears(0, 299, 300), 4 * 299 - 11);
        CHECKS.due("all", box.member(0, 3), 18);
    }

    private static void paymentsUpToQ() {
        BreadBox box = new BreadBox();
        box.join(30, 0);
        Boxes.weeks(box, 3);
        box.pay(0, 5);
        Boxes.weeks(box, 3);
        CHECKS.due("as known ahead of it", box.arrears(0, 6, 2), 24);
        CHECKS.due("as known in its WEEK", box.arrears(0, 6, 3), 24 - 5);
        CHECKS.due("as known behind", box.arrears(0, 6, 4), 24 - 5);
        CHECKS.due("its WEEK as known in it", box.arrears(0, 3, 3), 12 - 5);
        CHECKS.due("its WEEK as known ahead", box.arrears(0, 3, 2), 12);
        CHECKS.due("the WEEK ahead as known in it", box.arrears(0, 2, 3), 8);
    }

    private static void outIsMore() {
        BreadBox box = new BreadBox();
        box.join(30, 0);
        Boxes.weeks(box, 9);
        CHECKS.due("owed in 8", box.arrears(0, 8, 9), 32);
        CHECKS.no("as much as 8 times 4", box.out(0, 8, 9));
        CHECKS.due("owed in 9", box.arrears(0, 9, 9), 36);
        CHECKS.yes("4 more", box.out(0, 9, 9));
        CHECKS.due("pays 3", box.pay(0, 3), 33);
        CHECKS.yes("1 more", box.out(0, 9, 9));
        CHECKS.due("who is OUT", box.count(6), 1);
        CHECKS.due("pays 1", box.pay(0, 1), 32);
        CHECKS.no("as much", box.out(0, 9, 9));
        CHECKS.due("who is OUT", box.count(6), 0);
    }

    private static void outByNothing() {
        BreadBox box = new BreadBox();
        box.join(30, 0);
        box.rule(Boxes.TILL_OUT, 0, 0);
        CHECKS.no("nothing is not more than nothing", box.out(0, 0, 0));
        box.week();
        CHECKS.yes("4 is", box.out(0, 1, 1));
        CHECKS.due("pays 3", box.pay(0, 3), 1);
        CHECKS.yes("1 is", box.out(0, 1, 1));
        CHECKS.due("pays 1", box.pay(0, 1), 0);
        CHECKS.no("0 is not", box.out(0, 1, 1));
        CHECKS.due("pays 1", box.pay(0, 1), -1);
        CHECKS.no("ahead", box.out(0, 1, 1));
        box.week();
        CHECKS.yes("the next WEEK", box.out(0, 2, 2));
        box.rule(Boxes.DUE, 2, 0);
        box.rule(Boxes.TILL_OUT, 2, 50);
        CHECKS.yes("50 times nothing", box.out(0, 2, 2));
        box.rule(Boxes.DUE, 0, 0);
        CHECKS.no("nothing was ever due", box.out(0, 2, 2));
    }

    private static void outByMost() {
        BreadBox box = new BreadBox();
        box.join(30, 0);
        box.rule(Boxes.DUE, 0, 100);
        box.rule(Boxes.TILL_OUT, 0, 50);
        Boxes.weeks(box, 51);
        CHECKS.no("50 times 100", box.out(0, 50, 51));
        CHECKS.yes("51 times 100", box.out(0, 51, 51));
        CHECKS.due("pays 99", box.pay(0, 99), 5001);
        CHECKS.yes("1 more", box.out(0, 51, 51));
        CHECKS.due("pays 1", box.pay(0, 1), 5000);
        CHECKS.no("as much", box.out(0, 51, 51));
        Boxes.weeks(box, 249);
        CHECKS.due("all that can be owed, less 100", box.arrears(0, 300, 300), 29_900);
    }

    private static void outByRulesOfItsWeek() {
        BreadBox box = new BreadBox();
        box.join(30, 0);
        Boxes.weeks(box, 6);
        box.rule(Boxes.TILL_OUT, 4, 3);
        CHECKS.no("the WEEK ahead", box.out(0, 3, 6));
        CHECKS.yes("from the WEEK on", box.out(0, 4, 6));
        box.rule(Boxes.TILL_OUT, 5, 8);
        CHECKS.yes("another from the next on", box.out(0, 4, 6));
        CHECKS.no("in the next", box.out(0, 5, 6));
        box.rule(Boxes.DUE, 4, 6);
        CHECKS.no("16 of 3 times 6", box.out(0, 4, 6));
        box.rule(Boxes.DUE, 4, 5);
        CHECKS.yes("16 of 3 times 5", box.out(0, 4, 6));
        box.rule(Boxes.DUE, 5, 100);
        CHECKS.yes("not by the next WEEK's", box.out(0, 4, 6));
    }

    private static void outAsKnown() {
        BreadBox box = new BreadBox();
        box.join(30, 0);
        Boxes.weeks(box, 9);
        box.pay(0, 4);
        box.week();
        box.rule(Boxes.TILL_OUT, 0, 0);
        CHECKS.yes("ere it paid", box.out(0, 9, 8));
        CHECKS.no("when it paid", box.out(0, 9, 9));
        CHECKS.yes("by the rule", box.out(0, 9, 10));
        CHECKS.no("in the WEEK of JOINING", box.out(0, 0, 10));
        CHECKS.yes("in the next", box.out(0, 1, 10));
    }

    /** Of two who are SICK on the same DAYS one is OUT: neither is taken for the other. */
    private static void outOneByOne() {
        BreadBox box = new BreadBox();
        box.join(30, 0);
        box.join(30, 0);
        box.rule(Boxes.TILL_OUT, 0, 0);
        box.rule(Boxes.WAITING, 0, 0);
        box.week();
        box.pay(1, 4);
        box.paper(0, 7, 13);
        box.paper(1, 7, 13);
        CHECKS.due("it is OUT", box.day(0, 7, 1), 5);
        CHECKS.due("the other is not", box.day(1, 7, 1), 2);
        CHECKS.due("it is OUT", box.day(0, 7, 1), 5);
        CHECKS.due("as known ahead none is SICK", box.day(0, 7, 0) + box.day(1, 7, 0), 0);
        CHECKS.due("granted", box.grant(1, 1, 1), 84);
        CHECKS.due("not granted", box.grant(0, 1, 1), 0);
        CHECKS.due("OUT", box.count(6), 1);
        CHECKS.due("one is BOOKED", box.week(), 1);
        CHECKS.due("whose", box.entry(0, 2), 1);
    }
}
