/** Each promise by itself: ordinary inputs, the edges that the document names, wrong inputs. */
public final class PromisesTest {
    private static final int NONE = BreadBox.NONE;
    private static final int NO_COINS = -1_000_000;
    private static final int LEAST = Integer.MIN_VALUE;
    private static final int MOST = Integer.MAX_VALUE;

    private static final Checks CHECKS = new Checks();

    public static void main(String[] args) {
        newObject();
        join();
        pay();
        rule();
        paper();
        back();
        week();
        weekInOrder();
        table();
        force();
        grant();
        grantByRulesOfItsWeeks();
        grantAndPapersThatOverlap();
        day();
        illnessesThatAreJoined();
        arrears();
        out();
        what();
        booked();
        entry();
        worth();
        worthAsYearsGo();
        lodge();
        member();
        told();
        count();
        CHECKS.end("PromisesTest");
    }

    private static void due(String call, long got, long due) {
        CHECKS.due(call, got, due);
    }

    private static void newObject() {
        BreadBox box = new BreadBox();
        for (int kind = 0; kind < 7; kind++) {
            due("1: force at first " + kind, box.force(kind, 0, 0), Boxes.AT_FIRST[kind]);
            due("1: force at first, week 1000, " + kind, box.force(kind, 1000, 0), Boxes.AT_FIRST[kind]);
        }
        for (int what = 0; what < 8; what++) {
            due("1: count " + what, box.count(what), 0);
        }
        for (int lodge = 0; lodge < 4; lodge++) {
            due("1: lodge " + lodge, box.lodge(lodge, 0) + box.lodge(lodge, 1) + box.lodge(lodge, 2), 0);
        }
        due("1: nobody", box.member(0, 0), NONE);
        due("1: no paper", box.told(0, 0), NONE);
        due("1: no booking", box.entry(0, 0), NO_COINS);
        due("1: NONE", BreadBox.NONE, -1);
    }

    private static void join() {
        BreadBox box = new BreadBox();
        due("2: young", box.join(15, 0), NONE);
        due("2: old", box.join(61, 0), NONE);
        due("2: lodge -1", box.join(16, -1), NONE);
        due("2: lodge 4", box.join(16, 4), NONE);
        due("2: far", box.join(LEAST, 0), NONE);
        due("2: far", box.join(MOST, MOST), NONE);
        due("2: nobody joined", box.count(1), 0);
        due("2: 16", box.join(16, 0), 0);
        due("2: 60", box.join(60, 3), 1);
        for (int i = 2; i < 40; i++) {
            due("2: join", box.join(30, i % 4), i);
        }
        due("2: forty", box.join(30, 0), NONE);
        due("2: forty", box.count(1), 40);
    }

    private static void pay() {
        BreadBox box = new BreadBox();
        due("3: no member", box.pay(0, 1), NO_COINS);
        box.join(30, 2);
        due("3: first", box.pay(0, 1), -1);
        due("3: thousand", box.pay(0, 1000), -1001);
        due("3: 0", box.pay(0, 0), NO_COINS);
        due("3: 1001", box.pay(0, 1001), NO_COINS);
        due("3: below", box.pay(0, LEAST), NO_COINS);
        due("3: member -1", box.pay(-1, 5), NO_COINS);
        due("3: member 1", box.pay(1, 5), NO_COINS);
        Boxes.weeks(box, 3);
        due("3: three weeks on", box.pay(0, 2), 12 - 1003);
        due("3: paid", box.count(7), 1003);
        box.rule(0, 1, 100);
        due("3: dues as known now", box.pay(0, 1), 4 + 100 + 100 - 1004);
    }

    private static void rule() {
        BreadBox box = new BreadBox();
        int[] least = Boxes.LEAST_VALUE;
        int[] most = Boxes.MOST_VALUE;
        int told = 0;
        for (int kind = 0; kind < 7; kind++) {
            due("4: too low " + kind, box.rule(kind, 0, least[kind] - 1), NONE);
            due("4: too high " + kind, box.rule(kind, 0, most[kind] + 1), NONE);
            due("4: lowest " + kind, box.rule(kind, 0, least[kind]), ++told);
            due("4: in force " + kind, box.force(kind, 0, 0), least[kind]);
            due("4: highest " + kind, box.rule(kind, 1000, most[kind]), ++told);
            due("4: in force " + kind, box.force(kind, 1000, 0), most[kind]);
            due("4: not yet " + kind, box.force(kind, 999, 0), least[kind]);
        }
        due("4: kind -1", box.rule(-1, 0, 1), NONE);
        due("4: kind 7", box.rule(7, 0, 1), NONE);
        due("4: from -1", box.rule(0, -1, 1), NONE);
        due("4: from 1001", box.rule(0, 1001, 1), NONE);
        due("4: far", box.rule(MOST, MOST, MOST), NONE);
        due("4: far", box.rule(LEAST, LEAST, LEAST), NONE);
        while (told < 200) {
            due("4: told", box.rule(told % 7, told % 50, 1 + told % 10), ++told);
        }
        due("4: 200 were told", box.rule(0, 0, 1), NONE);
        due("4: 200 were told", box.count(2), 200);
    }

    private static void paper() {
        BreadBox box = new BreadBox();
        Boxes.weeks(box, 2);
        due("5: no member", box.paper(0, 14, 15), NONE);
        box.join(30, 0);
        due("5: ahead of joining", box.paper(0, 13, 15), NONE);
        due("5: first day of its week", box.paper(0, 14, 14), 0);
        due("5: last day of this week", box.paper(0, 20, 20), 1);
        due("5: next week", box.paper(0, 20, 21), NONE);
        due("5: upside down", box.paper(0, 16, 15), NONE);
        due("5: below 0", box.paper(0, -1, 15), NONE);
        due("5: far", box.paper(0, LEAST, MOST), NONE);
        due("5: far", box.paper(0, MOST, LEAST), NONE);
        due("5: member -1", box.paper(-1, 14, 15), NONE);
        due("5: member 1", box.paper(1, 14, 15), NONE);
        Boxes.weeks(box, 60);
        due("5: 401 days", box.paper(0, 14, 414), NONE);
        due("5: 400 days", box.paper(0, 14, 413), 2);
        for (int i = 3; i < 200; i++) {
            due("5: paper", box.paper(0, 14 + i, 14 + i), i);
        }
        due("5: there are 200", box.paper(0, 14, 15), NONE);
        box.back(7);
        due("5: one that is taken back is one still", box.paper(0, 14, 15), NONE);
        due("5: there are 200", box.count(3), 200);
    }

    private static void back() {
        BreadBox box = Boxes.withoutDues(1, 1);
        due("6: a paper", box.paper(0, 0, 6), 0);
        CHECKS.no("6: -1", box.back(-1));
        CHECKS.no("6: 1", box.back(1));
        CHECKS.no("6: far", box.back(LEAST) || box.back(MOST));
        due("6: granted", box.grant(0, 0, 1), 48);
        box.week();
        CHECKS.yes("6: back", box.back(0));
        CHECKS.no("6: again", box.back(0));
        due("6: not known from then on", box.grant(0, 0, 2), 0);
        due("6: but ahead of it", box.grant(0, 0, 1), 48);
        due("6: nor ere it was told", box.grant(0, 0, 0), 0);
        due("6: taken back in", box.told(0, 4), 2);
        due("6: told and taken back in one week", box.paper(0, 0, 6), 1);
        CHECKS.yes("6: back", box.back(1));
        due("6: never known", box.grant(0, 0, 2), 0);
        due("6: two papers have a day", box.paper(0, 0, 6) + box.paper(0, 5, 9), 5);
        CHECKS.yes("6: back", box.back(2));
        due("6: the other one still has it", box.day(0, 5, 2), 1);
        due("6: and no more", box.day(0, 4, 2), 0);
    }

    private static void week() {
        BreadBox box = new BreadBox();
        box.join(30, 0);
        for (int w = 0; w < 300; w++) {
            due("7: week", box.week(), 0);
        }
        due("7: now", box.count(0), 300);
        due("7: over", box.week(), NONE);
        due("7: now", box.count(0), 300);
        due("7: arrears in the last week", box.arrears(0, 300, 300), 1200);
        due("7: pay in the last week", box.pay(0, 200), 1000);
        due("7: rule for the last week", box.rule(6, 300, 50), 1);
        due("7: and dues", box.rule(0, 300, 100), 2);
        due("7: paper in the last week", box.paper(0, 2100, 2106), 0);
        due("7: its grant", box.grant(0, 300, 300), 48);
        due("7: none behind", box.paper(0, 2100, 2107), NONE);
        due("7: still over", box.week(), NONE);
        due("7: nothing booked", box.count(4), 0);
    }

    private static void weekInOrder() {
        BreadBox box = new BreadBox();
        box.join(30, 0);
        box.join(40, 1);
        Boxes.weeks(box, 2);
        box.paper(1, 0, 20);
        box.paper(0, 7, 20);
        due("7: booked", box.week(), 5);
        int[][] entries = {{2, 0, 1, 48}, {2, 1, 0, 48}, {2, 1, 1, 84}, {2, 2, 0, 84}, {2, 2, 1, 84}};
        for (int i = 0; i < entries.length; i++) {
            for (int what = 0; what < 4; what++) {
                due("7: entry " + i + ", " + what, box.entry(i, what), entries[i][what]);
            }
        }
        due("7: nothing new", box.week(), 0);
        due("7: a rule for a week that is over", box.rule(2, 2, 10), 1);
        due("7: differences", box.week(), 2);
        due("7: below 0", box.entry(5, 3), -14);
        due("7: for which", box.entry(5, 1), 2);
        due("7: booked in", box.entry(5, 0), 4);
        due("7: of whom", box.entry(6, 2), 1);
        due("7: the rule again as it was", box.rule(2, 2, 12), 2);
        due("7: and back", box.week(), 2);
        due("7: above 0", box.entry(7, 3), 14);
        due("7: a rule that changes no grant", box.rule(2, 1, 12), 3);
        due("7: none", box.week(), 0);
        CHECKS.yes("7: a paper is taken back", box.back(0));
        due("7: all of it", box.week(), 3);
        due("7: below 0", box.entry(9, 3), -48);
        due("7: below 0", box.entry(11, 3), -84);
        due("7: the other's stands", box.booked(0, 2), 84);
    }

    private static void table() {
        BreadBox box = new BreadBox();
        CHECKS.no("8: age -1", box.table(-1, 5, 5));
        CHECKS.no("8: age 100", box.table(100, 5, 5));
        CHECKS.no("8: living -1", box.table(30, -1, 5));
        CHECKS.no("8: living 1001", box.table(30, 1001, 5));
        CHECKS.no("8: sick -1", box.table(30, 5, -1));
        CHECKS.no("8: sick 366", box.table(30, 5, 366));
        CHECKS.no("8: far", box.table(LEAST, MOST, LEAST));
        box.join(30, 0);
        due("8: as at first", box.worth(0, 1, 0), -124);
        CHECKS.yes("8: lowest", box.table(0, 0, 0));
        CHECKS.yes("8: highest", box.table(99, 1000, 365));
        CHECKS.yes("8: of 30", box.table(30, 1000, 365));
        due("8: by the table", box.worth(0, 1, 0), 365 * 12 - 208);
        box.join(60, 0);
        long sum = 0;
        for (int age = 60; age < 99; age++) {
            sum += (1000 - 10 * age) * (age / 4 * 12 - 208);
        }
        sum += 1000 * (365 * 12 - 208);
        due("8: up to 99, none of 100 and more", box.worth(1, 50, 0) * (400 / box.worth(1, 50, 1)), sum);
    }

    private static void force() {
        BreadBox box = new BreadBox();
        box.rule(2, 5, 50);
        box.rule(2, 3, 30);
        Boxes.weeks(box, 2);
        box.rule(2, 3, 31);
        box.rule(2, 9, 90);
        due("9: ahead of all", box.force(2, 2, 2), 12);
        due("9: of several the last told", box.force(2, 3, 2), 31);
        due("9: as known ahead of it", box.force(2, 3, 1), 30);
        due("9: the greatest week, not the last told", box.force(2, 5, 2), 50);
        due("9: the greatest week", box.force(2, 1000, 2), 90);
        due("9: not yet told", box.force(2, 1000, 1), 50);
        due("9: another kind", box.force(3, 1000, 2), 30);
        due("9: kind -1", box.force(-1, 0, 0), NONE);
        due("9: kind 7", box.force(7, 0, 0), NONE);
        due("9: w -1", box.force(0, -1, 0), NONE);
        due("9: w 1001", box.force(0, 1001, 0), NONE);
        due("9: q -1", box.force(0, 0, -1), NONE);
        due("9: q 3", box.force(0, 0, 3), NONE);
        due("9: far", box.force(LEAST, MOST, LEAST), NONE);
        due("9: told in this week", box.rule(2, 3, 32), 5);
        due("9: known at once", box.force(2, 4, 2), 32);
    }

    private static void grant() {
        BreadBox box = Boxes.withoutDues(1, 20);
        box.rule(1, 0, 2);
        box.rule(3, 0, 5);
        box.rule(4, 0, 4);
        box.rule(2, 0, 11);
        due("10: a paper", box.paper(0, 7, 27), 0);
        due("10: two wait, five whole", box.grant(0, 1, 20), 55);
        due("10: four half, three quarter", box.grant(0, 2, 20), 4 * 5 + 3 * 2);
        due("10: seven quarter", box.grant(0, 3, 20), 14);
        due("10: none", box.grant(0, 4, 20), 0);
        due("10: none ahead", box.grant(0, 0, 20), 0);
        due("10: as known ahead of it", box.grant(0, 1, 19), 0);
        due("10: member -1", box.grant(-1, 1, 20), NONE);
        due("10: member 1", box.grant(1, 1, 20), NONE);
        due("10: w -1", box.grant(0, -1, 20), NONE);
        due("10: w 21", box.grant(0, 21, 20), NONE);
        due("10: q -1", box.grant(0, 1, -1), NONE);
        due("10: q 21", box.grant(0, 1, 21), NONE);
        due("10: far", box.grant(MOST, LEAST, MOST), NONE);
        box.rule(4, 0, 0);
        due("10: no half days", box.grant(0, 2, 20), 14);
        box.rule(1, 0, 0);
        due("10: no waiting days", box.grant(0, 1, 20), 5 * 11 + 2 * 2);
        box.rule(1, 0, 14);
        due("10: all waiting", box.grant(0, 1, 20) + box.grant(0, 2, 20), 0);
        due("10: and then whole", box.grant(0, 3, 20), 5 * 11 + 2 * 2);
    }

    private static void grantByRulesOfItsWeeks() {
        BreadBox box = Boxes.withoutDues(1, 10);
        box.paper(0, 10, 30);
        box.rule(1, 2, 0);
        box.rule(3, 2, 1);
        due("10: rules of the first day's week", box.grant(0, 1, 10), 12);
        due("10: through the illness", box.grant(0, 3, 10), 84);
        box.rule(2, 3, 20);
        due("10: but whole of the day's week", box.grant(0, 3, 10), 140);
        due("10: not of another", box.grant(0, 2, 10), 84);
        box.rule(1, 1, 1);
        box.rule(3, 1, 2);
        box.rule(4, 1, 3);
        due("10: 1 waits, 2 whole, 1 half", box.grant(0, 1, 10), 24 + 6);
        due("10: 2 half, 5 quarter", box.grant(0, 2, 10), 12 + 15);
        due("10: quarter of the new whole", box.grant(0, 3, 10), 35);
    }

    private static void grantAndPapersThatOverlap() {
        BreadBox box = Boxes.withoutDues(1, 10);
        box.paper(0, 20, 24);
        box.paper(0, 14, 21);
        box.paper(0, 16, 17);
        box.paper(0, 14, 15);
        due("10: each day once", box.grant(0, 2, 10), 4 * 12);
        due("10: each day once", box.grant(0, 3, 10), 4 * 12);
        box.join(50, 1);
        due("10: another's", box.grant(1, 2, 10), 0);
        box.rule(3, 0, 7);
        due("10: the days' order, not the papers'", box.day(0, 23, 10), 2);
        due("10: the days' order, not the papers'", box.day(0, 24, 10), 3);
        box.back(1);
        due("10: a gap, but one illness", box.grant(0, 2, 10), 2 * 12);
        due("10: a gap, but one illness", box.grant(0, 3, 10), 4 * 12);
    }

    private static void day() {
        BreadBox box = Boxes.withoutDues(1, 6);
        box.rule(1, 0, 1);
        box.rule(3, 0, 2);
        box.rule(4, 0, 1);
        box.paper(0, 8, 13);
        int[] natures = {0, 1, 2, 2, 3, 4, 4, 0};
        for (int i = 0; i < natures.length; i++) {
            due("11: day " + (7 + i), box.day(0, 7 + i, 6), natures[i]);
            due("11: not known", box.day(0, 7 + i, 5), 0);
        }
        due("11: day -1", box.day(0, -1, 6), NONE);
        due("11: last day", box.day(0, 48, 6), 0);
        due("11: day 49", box.day(0, 49, 6), NONE);
        due("11: member -1", box.day(-1, 0, 6), NONE);
        due("11: member 1", box.day(1, 0, 6), NONE);
        due("11: q -1", box.day(0, 0, -1), NONE);
        due("11: q 7", box.day(0, 0, 7), NONE);
        due("11: far", box.day(LEAST, MOST, LEAST), NONE);
        box.rule(0, 0, 4);
        box.rule(6, 0, 0);
        due("11: out, on a waiting day too", box.day(0, 8, 6), 5);
        due("11: out", box.day(0, 13, 6), 5);
        due("11: not sick though out", box.day(0, 14, 6), 0);
        due("11: nothing", box.grant(0, 1, 6), 0);
        box.rule(6, 2, 50);
        box.paper(0, 14, 20);
        due("11: days when out count", box.day(0, 14, 6), 4);
        due("11: days when out count", box.grant(0, 2, 6), 21);
    }

    private static void illnessesThatAreJoined() {
        BreadBox box = Boxes.withoutDues(1, 12);
        box.paper(0, 0, 4);
        box.paper(0, 33, 35);
        due("11: 28 days between", box.day(0, 33, 12), 2);
        box.rule(5, 5, 27);
        due("11: in force in a later week", box.day(0, 33, 12), 2);
        box.rule(5, 4, 27);
        due("11: in force in its week", box.day(0, 33, 12), 1);
        box.rule(5, 4, 400);
        due("11: joined again", box.day(0, 33, 12), 2);
        box.rule(5, 0, 0);
        box.rule(5, 4, 0);
        due("11: none between", box.day(0, 4, 12), 2);
        box.paper(0, 6, 6);
        due("11: one between", box.day(0, 6, 12), 1);
        box.rule(1, 4, 0);
        due("11: waiting as its own first day has it", box.day(0, 33, 12), 2);
        box.paper(0, 5, 5);
        due("11: a paper that comes late joins", box.day(0, 6, 12), 2);
    }

    private static void arrears() {
        BreadBox box = new BreadBox();
        Boxes.weeks(box, 2);
        box.join(30, 0);
        box.pay(0, 3);
        Boxes.weeks(box, 2);
        box.pay(0, 5);
        box.rule(0, 3, 7);
        Boxes.weeks(box, 2);
        due("12: ahead of joining", box.arrears(0, 1, 6), 0);
        due("12: the week in which it joined", box.arrears(0, 2, 6), -3);
        due("12: one due", box.arrears(0, 3, 6), 4 - 3);
        due("12: a rule from then on", box.arrears(0, 4, 6), 4 + 7 - 8);
        due("12: now", box.arrears(0, 6, 6), 4 + 7 + 7 + 7 - 8);
        due("12: as known ahead of the rule", box.arrears(0, 6, 3), 16 - 3);
        due("12: as known when it was told", box.arrears(0, 5, 4), 4 + 7 + 7 - 8);
        due("12: as known ahead of joining", box.arrears(0, 6, 1), 16);
        due("12: member -1", box.arrears(-1, 0, 0), NO_COINS);
        due("12: member 1", box.arrears(1, 0, 0), NO_COINS);
        due("12: w -1", box.arrears(0, -1, 0), NO_COINS);
        due("12: w 7", box.arrears(0, 7, 0), NO_COINS);
        due("12: q -1", box.arrears(0, 0, -1), NO_COINS);
        due("12: q 7", box.arrears(0, 0, 7), NO_COINS);
        due("12: far", box.arrears(MOST, LEAST, MOST), NO_COINS);
    }

    private static void out() {
        BreadBox box = new BreadBox();
        box.join(30, 0);
        Boxes.weeks(box, 10);
        CHECKS.no("13: as much as eight weeks", box.out(0, 8, 10));
        CHECKS.yes("13: more than eight weeks", box.out(0, 9, 10));
        box.pay(0, 8);
        CHECKS.no("13: paid", box.out(0, 10, 10));
        CHECKS.yes("13: paid later", box.out(0, 9, 10));
        CHECKS.yes("13: as known ahead of it", box.out(0, 10, 9));
        box.rule(6, 9, 9);
        CHECKS.no("13: weeks as in force in w", box.out(0, 9, 10));
        box.rule(6, 9, 8);
        box.rule(0, 9, 5);
        CHECKS.no("13: due as in force in w", box.out(0, 9, 10));
        box.rule(6, 10, 0);
        CHECKS.no("13: weeks not as in force in q", box.out(0, 9, 10));
        box.rule(0, 10, 0);
        box.rule(6, 10, 8);
        CHECKS.no("13: due not as in force in q", box.out(0, 9, 10));
        box.rule(0, 0, 0);
        box.rule(6, 0, 0);
        CHECKS.no("13: nothing is not more than nothing", box.out(0, 5, 10));
        CHECKS.no("13: member -1", box.out(-1, 9, 9));
        CHECKS.no("13: member 1", box.out(1, 9, 9));
        CHECKS.no("13: w -1", box.out(0, -1, 9));
        CHECKS.no("13: w 11", box.out(0, 11, 9));
        CHECKS.no("13: q -1", box.out(0, 9, -1));
        CHECKS.no("13: q 11", box.out(0, 9, 11));
        CHECKS.no("13: far", box.out(LEAST, MOST, LEAST));
    }

    private static void what() {
        BreadBox box = new BreadBox();
        box.join(30, 0);
        Boxes.weeks(box, 4);
        box.paper(0, 7, 13);
        box.rule(2, 1, 20);
        due("14: told last", box.what(0, 1, 2, 1, 40), 160);
        due("14: the other is from a greater week", box.what(0, 1, 2, 0, 40), 80);
        due("14: from a later week", box.what(0, 1, 2, 2, 40), 80);
        due("14: waiting", box.what(0, 1, 1, 0, 7), 0);
        due("14: whole days", box.what(0, 1, 3, 1, 1), 20 + 30);
        due("14: out", box.what(0, 1, 6, 1, 0), 0);
        due("14: dues", box.what(0, 1, 0, 0, 100), 80);
        due("14: nothing is told", box.count(2), 1);
        due("14: nothing is told", box.force(2, 1, 4), 20);
        due("14: nothing is told", box.grant(0, 1, 4), 80);
        due("14: another rule is told behind it", box.rule(1, 0, 0), 2);
        due("14: and is in force", box.grant(0, 1, 4), 140);
        due("14: member -1", box.what(-1, 1, 0, 0, 0), NONE);
        due("14: member 1", box.what(1, 1, 0, 0, 0), NONE);
        due("14: w -1", box.what(0, -1, 0, 0, 0), NONE);
        due("14: w 5", box.what(0, 5, 0, 0, 0), NONE);
        due("14: kind -1", box.what(0, 1, -1, 0, 0), NONE);
        due("14: kind 7", box.what(0, 1, 7, 0, 0), NONE);
        due("14: from -1", box.what(0, 1, 0, -1, 0), NONE);
        due("14: from 1000", box.what(0, 1, 0, 1000, 0), 140);
        due("14: from 1001", box.what(0, 1, 0, 1001, 0), NONE);
        due("14: value 101", box.what(0, 1, 0, 0, 101), NONE);
        due("14: value 0 of whole days", box.what(0, 1, 3, 0, 0), NONE);
        due("14: far", box.what(LEAST, MOST, LEAST, MOST, LEAST), NONE);
        for (int i = box.count(2); i < 200; i++) {
            box.rule(4, 0, 1);
        }
        due("14: however many were told", box.what(0, 1, 2, 1, 40), 280);
        due("14: 200 were told", box.count(2), 200);
        due("14: and hold", box.grant(0, 1, 4), 140);
    }

    private static void booked() {
        BreadBox box = Boxes.withoutDues(1, 3);
        box.paper(0, 7, 13);
        due("15: not yet", box.booked(0, 1), 0);
        box.week();
        due("15: booked", box.booked(0, 1), 48);
        box.rule(2, 0, 10);
        due("15: as it was", box.booked(0, 1), 48);
        box.week();
        due("15: in all", box.booked(0, 1), 40);
        due("15: another week", box.booked(0, 2), 0);
        due("15: week -1", box.booked(0, -1), 0);
        due("15: week 6", box.booked(0, 6), 0);
        due("15: week 301", box.booked(0, 301), 0);
        due("15: member -1", box.booked(-1, 1), 0);
        due("15: member 1", box.booked(1, 1), 0);
        due("15: far", box.booked(MOST, LEAST), 0);
    }

    private static void entry() {
        BreadBox box = Boxes.withoutDues(1, 3);
        box.join(20, 1);
        box.paper(1, 23, 27);
        box.week();
        int[] entry = {3, 3, 1, 24};
        for (int what = 0; what < 4; what++) {
            due("16: entry " + what, box.entry(0, what), entry[what]);
        }
        due("16: what -1", box.entry(0, -1), NO_COINS);
        due("16: what 4", box.entry(0, 4), NO_COINS);
        due("16: i -1", box.entry(-1, 0), NO_COINS);
        due("16: i 1", box.entry(1, 0), NO_COINS);
        due("16: far", box.entry(MOST, LEAST), NO_COINS);
        due("16: far", box.entry(1 << 30, 0), NO_COINS);
    }

    private static void worth() {
        BreadBox box = new BreadBox();
        due("17: nobody", box.worth(0, 1, 0), NO_COINS);
        box.join(30, 0);
        due("17: two years", box.worth(0, 2, 0), -8618);
        due("17: two years", box.worth(0, 2, 1), 35);
        due("17: 0 years", box.worth(0, 0, 0), NO_COINS);
        due("17: 51 years", box.worth(0, 51, 0), NO_COINS);
        due("17: what -1", box.worth(0, 1, -1), NO_COINS);
        due("17: what 2", box.worth(0, 1, 2), NO_COINS);
        due("17: member -1", box.worth(-1, 1, 0), NO_COINS);
        due("17: member 1", box.worth(1, 1, 0), NO_COINS);
        due("17: far", box.worth(MOST, LEAST, MOST), NO_COINS);
        box.rule(2, 0, 0);
        box.rule(0, 0, 0);
        due("17: 0 by 1", box.worth(0, 50, 0), 0);
        due("17: 0 by 1", box.worth(0, 50, 1), 1);
        box.rule(2, 0, 100);
        for (int age = 30; age < 80; age++) {
            box.table(age, age == 30 ? 1 : 1000, 365);
        }
        due("17: the greatest", box.worth(0, 50, 0), 36500L + 49L * 1000 * 36500);
        due("17: the greatest", box.worth(0, 50, 1), 1);
        box.table(30, 0, 365);
        due("17: nobody is living", box.worth(0, 50, 0), NO_COINS);
        due("17: nobody is living", box.worth(0, 50, 1), NO_COINS);
        box.table(30, 1000, 365);
        box.table(31, 0, 365);
        due("17: nobody later", box.worth(0, 2, 0), 36500);
    }

    private static void worthAsYearsGo() {
        BreadBox box = new BreadBox();
        Boxes.weeks(box, 10);
        box.join(39, 0);
        box.rule(2, 62, 24);
        Boxes.weeks(box, 51);
        due("17: 51 weeks", box.worth(0, 1, 0), 9 * 12 - 208);
        box.week();
        due("17: a year, and a rule in force", box.worth(0, 1, 0), 10 * 24 - 208);
        box.rule(0, 63, 0);
        due("17: one that is not", box.worth(0, 1, 0), 10 * 24 - 208);
        box.rule(0, 62, 1);
        due("17: one that is told now", box.worth(0, 1, 0), 10 * 24 - 52);
        box.table(41, 0, 0);
        Boxes.weeks(box, 52);
        due("17: nobody of its age now", box.worth(0, 1, 0), NO_COINS);
    }

    private static void lodge() {
        BreadBox box = Boxes.withoutDues(1, 3);
        box.join(30, 2);
        box.join(30, 2);
        box.join(30, 3);
        box.pay(1, 5);
        box.pay(2, 6);
        box.pay(3, 7);
        box.week();
        box.pay(2, 100);
        box.paper(1, 21, 27);
        box.paper(2, 24, 27);
        box.week();
        box.rule(2, 0, 10);
        due("18: members", box.lodge(2, 0), 2);
        due("18: paid", box.lodge(2, 1), 111);
        due("18: booked", box.lodge(2, 2), 48 + 12);
        box.week();
        due("18: booked in all", box.lodge(2, 2), 40 + 10);
        due("18: another", box.lodge(3, 1), 7);
        due("18: another", box.lodge(3, 2), 0);
        due("18: empty", box.lodge(1, 0), 0);
        due("18: lodge -1", box.lodge(-1, 0), NONE);
        due("18: lodge 4", box.lodge(4, 0), NONE);
        due("18: what -1", box.lodge(2, -1), NONE);
        due("18: what 3", box.lodge(2, 3), NONE);
        due("18: far", box.lodge(LEAST, MOST), NONE);
    }

    private static void member() {
        BreadBox box = new BreadBox();
        Boxes.weeks(box, 2);
        box.join(45, 3);
        box.pay(0, 9);
        Boxes.weeks(box, 60);
        box.pay(0, 1);
        int[] member = {45, 3, 2, 10};
        for (int what = 0; what < 4; what++) {
            due("19: member " + what, box.member(0, what), member[what]);
        }
        due("19: what -1", box.member(0, -1), NONE);
        due("19: what 4", box.member(0, 4), NONE);
        due("19: member -1", box.member(-1, 0), NONE);
        due("19: member 1", box.member(1, 0), NONE);
        due("19: far", box.member(MOST, LEAST), NONE);
    }

    private static void told() {
        BreadBox box = Boxes.withoutDues(1, 3);
        box.join(20, 0);
        box.paper(1, 22, 25);
        box.week();
        int[] paper = {1, 22, 25, 3, NONE};
        for (int what = 0; what < 5; what++) {
            due("20: paper " + what, box.told(0, what), paper[what]);
        }
        box.week();
        box.back(0);
        box.week();
        due("20: taken back", box.told(0, 4), 5);
        due("20: told", box.told(0, 3), 3);
        due("20: what -1", box.told(0, -1), NONE);
        due("20: what 5", box.told(0, 5), NONE);
        due("20: paper -1", box.told(-1, 0), NONE);
        due("20: paper 1", box.told(1, 0), NONE);
        due("20: far", box.told(MOST, LEAST), NONE);
    }

    private static void count() {
        BreadBox box = new BreadBox();
        box.join(30, 0);
        box.join(31, 1);
        box.join(32, 1);
        box.rule(6, 0, 1);
        Boxes.weeks(box, 2);
        box.pay(0, 100);
        box.paper(0, 14, 20);
        box.paper(0, 0, 6);
        box.paper(1, 0, 0);
        box.back(2);
        box.week();
        int[] counts = {3, 3, 1, 3, 2, 100 - 48 - 84, 2, 100};
        for (int what = 0; what < 8; what++) {
            due("21: count " + what, box.count(what), counts[what]);
        }
        box.pay(1, 8);
        due("21: one less is out", box.count(6), 1);
        due("21: the box", box.count(5), 108 - 132);
        due("21: what -1", box.count(-1), NO_COINS);
        due("21: what 8", box.count(8), NO_COINS);
        due("21: far", box.count(LEAST), NO_COINS);
    }
}
