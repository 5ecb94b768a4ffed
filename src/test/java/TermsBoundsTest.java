/** The bounds that "Terms" names: WEEKS, DAYS, MEMBERS, what RULES are in force, which PAPERS are known, SICK DAYS. */
public final class TermsBoundsTest {
    private static final int NONE = BreadBox.NONE;
    private static final int[] LEAST = Boxes.LEAST_VALUE;
    private static final int[] MOST = Boxes.MOST_VALUE;
    private static final int[] AT_FIRST = Boxes.AT_FIRST;

    private static final Checks CHECKS = new Checks();

    public static void main(String[] args) {
        nowIsZeroAtFirst();
        nowIsThreeHundredAtMost();
        daysOfAWeek(0);
        daysOfAWeek(1);
        daysOfAWeek(149);
        daysOfAWeek(300);
        fortyMembers();
        agesAndLodges();
        rulesAtFirst();
        boundsOfRules();
        ruleFromAWeekOn(0);
        ruleFromAWeekOn(1);
        ruleFromAWeekOn(500);
        ruleFromAWeekOn(1000);
        ruleOfAnotherKind();
        ruleToldInAWeek();
        ruleFromTheGreatestWeek();
        ruleToldLast();
        ruleToldLastOfThoseKnown();
        paperToldInAWeek();
        paperTakenBackInAWeek();
        paperToldAndTakenBackInOneWeek();
        daysOfAPaper();
        daysOfTwoPapers();
        daysOfOthers();
        CHECKS.end("TermsBoundsTest");
    }

    private static void nowIsZeroAtFirst() {
        BreadBox box = new BreadBox();
        CHECKS.due("NOW at first", box.count(0), 0);
        box.join(30, 0);
        CHECKS.due("JOINED in week 0", box.member(0, 2), 0);
        CHECKS.due("week 0 is", box.grant(0, 0, 0), 0);
        CHECKS.due("week 1 is not yet", box.grant(0, 1, 0), NONE);
        CHECKS.due("day 6 is", box.day(0, 6, 0), 0);
        CHECKS.due("day 7 is not yet", box.day(0, 7, 0), NONE);
        CHECKS.due("nobody was OUT ere week 0", box.arrears(0, 0, 0), 0);
    }

    private static void nowIsThreeHundredAtMost() {
        BreadBox box = new BreadBox();
        Boxes.weeks(box, 299);
        CHECKS.due("NOW", box.count(0), 299);
        CHECKS.due("the last one", box.week(), 0);
        CHECKS.due("NOW", box.count(0), 300);
        CHECKS.due("no more", box.week(), NONE);
        CHECKS.due("NOW", box.count(0), 300);
        CHECKS.due("one JOINS in week 300", box.join(16, 0), 0);
        CHECKS.due("JOINED", box.member(0, 2), 300);
        CHECKS.due("week 300 is", box.grant(0, 300, 300), 0);
        CHECKS.due("week 301 is not", box.grant(0, 301, 300), NONE);
        CHECKS.due("as known in week 301", box.grant(0, 300, 301), NONE);
        CHECKS.due("no due yet", box.pay(0, 3), -3);
        CHECKS.due("day 2099 is ahead of JOINED", box.paper(0, 2099, 2100), NONE);
        CHECKS.due("days 2100 to 2106 are its", box.paper(0, 2100, 2106), 0);
        CHECKS.due("day 2106", box.day(0, 2106, 300), 2);
        CHECKS.due("day 2107 is none", box.day(0, 2107, 300), NONE);
        CHECKS.due("granted", box.grant(0, 300, 300), 48);
        CHECKS.due("a rule in the last week", box.rule(Boxes.WHOLE, 300, 100), 1);
        CHECKS.due("granted", box.grant(0, 300, 300), 400);
        CHECKS.due("as known ahead of it", box.grant(0, 300, 299), 0);
    }

    private static void daysOfAWeek(int w) {
        BreadBox box = Boxes.withoutWaiting(4, Math.min(w + 1, 300));
        int now = box.count(0);
        box.paper(0, 7 * w, 7 * w);
        box.paper(1, 7 * w + 6, 7 * w + 6);
        CHECKS.due("7 w is of w, " + w, box.grant(0, w, now), 12);
        CHECKS.due("7 w + 6 is of w, " + w, box.grant(1, w, now), 12);
        if (w > 0) {
            CHECKS.due("7 w is not of w - 1, " + w, box.grant(0, w - 1, now), 0);
            box.paper(2, 7 * w - 1, 7 * w - 1);
            CHECKS.due("7 w - 1 is not of w, " + w, box.grant(2, w, now), 0);
            CHECKS.due("7 w - 1 is of w - 1, " + w, box.grant(2, w - 1, now), 12);
        }
        if (w < 300) {
            CHECKS.due("7 w + 6 is not of w + 1, " + w, box.grant(1, w + 1, now), 0);
            box.paper(3, 7 * w + 7, 7 * w + 7);
            CHECKS.due("7 w + 7 is not of w, " + w, box.grant(3, w, now), 0);
            CHECKS.due("7 w + 7 is of w + 1, " + w, box.grant(3, w + 1, now), 12);
        }
        box.paper(0, 7 * w, 7 * w + 6);
        CHECKS.due("seven DAYS, " + w, box.grant(0, w, now), 84);
    }

    private static void fortyMembers() {
        BreadBox box = new BreadBox();
        for (int m = 0; m < 40; m++) {
            CHECKS.due("number", box.join(16 + m, m % 4), m);
        }
        CHECKS.due("one more", box.join(30, 0), NONE);
        CHECKS.due("MEMBERS", box.count(1), 40);
        CHECKS.due("the first one's AGE", box.member(0, 0), 16);
        CHECKS.due("the last one's AGE", box.member(39, 0), 55);
        CHECKS.due("none behind", box.member(40, 0), NONE);
        for (int lodge = 0; lodge < 4; lodge++) {
            CHECKS.due("of a LODGE", box.lodge(lodge, 0), 10);
        }
    }

    private static void agesAndLodges() {
        for (int age = 10; age <= 70; age++) {
            boolean right = age == 16 || age > 16 && age < 60 || age == 60;
            CHECKS.due("AGE " + age, new BreadBox().join(age, 0), right ? 0 : NONE);
        }
        int[] lodges = {-2, -1, 0, 1, 2, 3, 4, 5};
        int[] due = {NONE, NONE, 0, 0, 0, 0, NONE, NONE};
        for (int i = 0; i < lodges.length; i++) {
            BreadBox box = new BreadBox();
            CHECKS.due("LODGE " + lodges[i], box.join(30, lodges[i]), due[i]);
            CHECKS.due("told again", box.member(0, 1), due[i] == 0 ? lodges[i] : NONE);
        }
    }

    private static void rulesAtFirst() {
        BreadBox box = new BreadBox();
        for (int kind = 0; kind < 7; kind++) {
            CHECKS.due("at first in week 0, kind " + kind, box.force(kind, 0, 0), AT_FIRST[kind]);
            CHECKS.due("at first in week 1000, kind " + kind, box.force(kind, 1000, 0), AT_FIRST[kind]);
        }
        CHECKS.due("no kind -1", box.force(-1, 0, 0), NONE);
        CHECKS.due("no kind 7", box.force(7, 0, 0), NONE);
    }

    private static void boundsOfRules() {
        for (int kind = 0; kind < 7; kind++) {
            BreadBox box = new BreadBox();
            CHECKS.due("below its least, kind " + kind, box.rule(kind, 0, LEAST[kind] - 1), NONE);
            CHECKS.due("stays, kind " + kind, box.force(kind, 0, 0), AT_FIRST[kind]);
            CHECKS.due("its least, kind " + kind, box.rule(kind, 0, LEAST[kind]), 1);
            CHECKS.due("in force, kind " + kind, box.force(kind, 0, 0), LEAST[kind]);
            CHECKS.due("above its most, kind " + kind, box.rule(kind, 0, MOST[kind] + 1), NONE);
            CHECKS.due("stays, kind " + kind, box.force(kind, 0, 0), LEAST[kind]);
            CHECKS.due("its most, kind " + kind, box.rule(kind, 0, MOST[kind]), 2);
            CHECKS.due("in force, kind " + kind, box.force(kind, 0, 0), MOST[kind]);
            CHECKS.due("told, kind " + kind, box.count(2), 2);
        }
    }

    private static void ruleFromAWeekOn(int from) {
        for (int kind = 0; kind < 7; kind++) {
            BreadBox box = new BreadBox();
            box.rule(kind, from, 9);
            CHECKS.due("in force in w = from " + from, box.force(kind, from, 0), 9);
            CHECKS.due("and on", box.force(kind, 1000, 0), 9);
            if (from > 0) {
                CHECKS.due("not in w = from - 1, from " + from, box.force(kind, from - 1, 0), AT_FIRST[kind]);
                CHECKS.due("nor ahead", box.force(kind, 0, 0), AT_FIRST[kind]);
            }
        }
    }

    private static void ruleOfAnotherKind() {
        for (int kind = 0; kind < 7; kind++) {
            BreadBox box = new BreadBox();
            box.rule(kind, 0, 9);
            for (int other = 0; other < 7; other++) {
                CHECKS.due("kind " + other + " by " + kind, box.force(other, 0, 0), other == kind ? 9 : AT_FIRST[other]);
            }
        }
    }

    private static void ruleToldInAWeek() {
        BreadBox box = new BreadBox();
        Boxes.weeks(box, 3);
        box.rule(Boxes.WHOLE, 1, 20);
        CHECKS.due("known in q = its week, at once", box.force(2, 1, 3), 20);
        CHECKS.due("not known in the week ahead", box.force(2, 1, 2), 12);
        CHECKS.due("nor in week 0", box.force(2, 1, 0), 12);
        box.week();
        CHECKS.due("known in the next week", box.force(2, 1, 4), 20);
        CHECKS.due("known in its week still", box.force(2, 1, 3), 20);
        CHECKS.due("not in the week ahead still", box.force(2, 1, 2), 12);
    }

    private static void ruleFromTheGreatestWeek() {
        BreadBox box = new BreadBox();
        box.rule(2, 7, 70);
        box.rule(2, 5, 50);
        box.rule(2, 6, 60);
        int[] due = {12, 50, 60, 70, 70};
        for (int i = 0; i < due.length; i++) {
            CHECKS.due("w " + (4 + i), box.force(2, 4 + i, 0), due[i]);
        }
        box.rule(2, 0, 1);
        CHECKS.due("from week 0", box.force(2, 0, 0), 1);
        CHECKS.due("up to the next one", box.force(2, 4, 0), 1);
        CHECKS.due("and not beyond", box.force(2, 5, 0), 50);
        CHECKS.due("a value that is as at first counts as any", box.rule(2, 8, 12), 5);
        CHECKS.due("w 8", box.force(2, 8, 0), 12);
        CHECKS.due("a value of 0 counts as any", box.rule(2, 9, 0), 6);
        CHECKS.due("w 9", box.force(2, 9, 0), 0);
        CHECKS.due("w 1000", box.force(2, 1000, 0), 0);
    }

    private static void ruleToldLast() {
        BreadBox box = new BreadBox();
        box.rule(2, 5, 50);
        box.rule(2, 5, 40);
        CHECKS.due("in one week", box.force(2, 5, 0), 40);
        box.rule(2, 4, 30);
        CHECKS.due("not the last told, but from a smaller week", box.force(2, 5, 0), 40);
        box.rule(2, 5, 60);
        CHECKS.due("a greater value", box.force(2, 5, 0), 60);
        box.rule(2, 0, 7);
        box.rule(2, 0, 8);
        CHECKS.due("from week 0", box.force(2, 0, 0), 8);
        box.rule(2, 1000, 7);
        box.rule(2, 1000, 6);
        CHECKS.due("from week 1000", box.force(2, 1000, 0), 6);
    }

    private static void ruleToldLastOfThoseKnown() {
        BreadBox box = new BreadBox();
        for (int week = 0; week < 4; week++) {
            box.rule(2, 2, 10 + week);
            box.week();
        }
        for (int q = 0; q < 4; q++) {
            CHECKS.due("as known in " + q, box.force(2, 2, q), 10 + q);
        }
        CHECKS.due("as known NOW", box.force(2, 2, 4), 13);
        box.rule(2, 1, 99);
        CHECKS.due("from a smaller week", box.force(2, 2, 4), 13);
        CHECKS.due("but in force there", box.force(2, 1, 4), 99);
        CHECKS.due("not ere it was told", box.force(2, 1, 3), 12);
    }

    private static void paperToldInAWeek() {
        BreadBox box = Boxes.withoutWaiting(1, 3);
        box.paper(0, 0, 6);
        CHECKS.due("known in q = its week, at once", box.day(0, 0, 3), 2);
        CHECKS.due("not known in the week ahead", box.day(0, 0, 2), 0);
        box.week();
        CHECKS.due("known in the next week", box.day(0, 0, 4), 2);
        CHECKS.due("known in its week still", box.day(0, 0, 3), 2);
        CHECKS.due("not in the week ahead still", box.grant(0, 0, 2), 0);
    }

    private static void paperTakenBackInAWeek() {
        BreadBox box = Boxes.withoutDues(1, 2);
        box.paper(0, 0, 6);
        Boxes.weeks(box, 3);
        box.back(0);
        box.week();
        String[] due = {"0000000", "0000000", "1112222", "1112222", "1112222", "0000000", "0000000"};
        for (int q = 0; q <= 6; q++) {
            CHECKS.same("as known in " + q, Boxes.natures(box, 0, 0, 6, q), due[q]);
            CHECKS.due("granted as known in " + q, box.grant(0, 0, q), q >= 2 && q <= 4 ? 48 : 0);
        }
    }

    private static void paperToldAndTakenBackInOneWeek() {
        BreadBox box = Boxes.withoutDues(1, 2);
        box.paper(0, 0, 6);
        box.back(0);
        CHECKS.due("not known", box.day(0, 0, 2), 0);
        CHECKS.due("nothing is BOOKED", box.week(), 0);
        for (int q = 0; q <= 3; q++) {
            CHECKS.due("never known, " + q, box.grant(0, 0, q), 0);
        }
    }

    private static void daysOfAPaper() {
        BreadBox box = Boxes.withoutWaiting(2, 3);
        box.paper(0, 9, 12);
        CHECKS.same("first to last", Boxes.natures(box, 0, 7, 14, 3), "00222200");
        box.paper(1, 10, 10);
        CHECKS.same("one DAY", Boxes.natures(box, 1, 8, 12, 3), "00200");
        box.paper(1, 0, 0);
        CHECKS.same("DAY 0", Boxes.natures(box, 1, 0, 2, 3), "200");
        box.paper(1, 27, 27);
        CHECKS.same("the last DAY", Boxes.natures(box, 1, 25, 27, 3), "002");
    }

    private static void daysOfTwoPapers() {
        BreadBox box = Boxes.withoutDues(3, 3);
        box.paper(0, 3, 5);
        box.paper(0, 5, 7);
        CHECKS.same("one DAY in both counts once", Boxes.natures(box, 0, 2, 8, 3), "0111220");
        box.paper(1, 3, 9);
        box.paper(1, 5, 6);
        CHECKS.same("one within the other", Boxes.natures(box, 1, 2, 10, 3), "011122220");
        box.back(2);
        CHECKS.same("the inner one is left", Boxes.natures(box, 1, 2, 10, 3), "000110000");
        box.paper(2, 3, 5);
        box.paper(2, 3, 5);
        CHECKS.same("the same DAYS", Boxes.natures(box, 2, 2, 6, 3), "01110");
        box.back(4);
        CHECKS.same("one of both is left", Boxes.natures(box, 2, 2, 6, 3), "01110");
        box.back(5);
        CHECKS.same("none is left", Boxes.natures(box, 2, 2, 6, 3), "00000");
    }

    private static void daysOfOthers() {
        BreadBox box = Boxes.withoutDues(40, 3);
        box.paper(0, 3, 5);
        box.paper(39, 6, 8);
        CHECKS.same("the first one's", Boxes.natures(box, 0, 2, 9, 3), "01110000");
        CHECKS.same("nobody else's", Boxes.natures(box, 1, 2, 9, 3), "00000000");
        CHECKS.same("the last one's", Boxes.natures(box, 39, 2, 9, 3), "00001110");
    }
}
