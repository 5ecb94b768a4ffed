import java.util.function.Supplier;

/**
 * Promise by promise, each "NONE:", "False:", "-1,000,000:" and "for others": for each argument the last value that is
 * taken and the first that is refused on either side, values far out, nothing there yet, and all places taken.
 */
public final class CallBoundsTest {
    private static final int NONE = BreadBox.NONE;
    private static final int NO_COINS = -1_000_000;
    /** Some of these come back within bounds if they are added to, multiplied by 4 or 7, or cut to 8 or 16 bits. */
    private static final int[] FAR = {Integer.MIN_VALUE, Integer.MIN_VALUE + 1, Integer.MIN_VALUE + 6, -(1 << 30),
        -613566756, -65536, -1001, -256, -7, 256, 1001, 65536, 65537, 613566756, 613566757, 1 << 29, 1 << 30, (1 << 30) + 1,
        Integer.MAX_VALUE - 6, Integer.MAX_VALUE - 1, Integer.MAX_VALUE};
    private static final int NOW = 20;
    private static final int MEMBERS = 3;
    private static final int PAPERS = 3;

    private static final Checks CHECKS = new Checks();

    /** A call with its arguments; booleans count 1 or 0. */
    private interface Call {
        long on(BreadBox box, int... arguments);
    }

    public static void main(String[] args) {
        newObject();
        objectsApart();
        join();
        pay();
        rule();
        paper();
        paperByDays();
        back();
        week();
        table();
        force();
        grant();
        day();
        arrears();
        out();
        what();
        booked();
        entry();
        worth();
        lodge();
        member();
        told();
        count();
        allPlacesTaken();
        CHECKS.end("CallBoundsTest");
    }

    /**
     * Argument number place is taken from least to most and refused beyond, if the others are as given. Each call is on
     * a box of its own.
     */
    private static void bound(String name, Call call, int refusal, int[] others, int place, int least, int most) {
        bound(CallBoundsTest::society, name, call, refusal, others, place, least, most);
    }

    private static void bound(Supplier<BreadBox> maker, String name, Call call, int refusal, int[] others, int place,
            int least, int most) {
        String where = name + ", argument " + place + ": ";
        for (int value : new int[] {least, Math.min(least + 1, most), (least + most) / 2, Math.max(most - 1, least), most}) {
            CHECKS.other(where + value, call.on(maker.get(), with(others, place, value)), refusal);
        }
        for (int value : new int[] {least - 1, least - 2, most + 1, most + 2}) {
            CHECKS.due(where + value, call.on(maker.get(), with(others, place, value)), refusal);
        }
        for (int value : FAR) {
            if (value < least || value > most) {
                CHECKS.due(where + value, call.on(maker.get(), with(others, place, value)), refusal);
            }
        }
    }

    /** The answers of a call with two arguments, a row for each first one. */
    private static void rows(String name, BreadBox box, Call call, int[][] due) {
        for (int i = 0; i < due.length; i++) {
            for (int what = 0; what < due[i].length; what++) {
                CHECKS.due(name + " " + i + ", " + what, call.on(box, i, what), due[i][what]);
            }
        }
    }

    private static int[] with(int[] others, int place, int value) {
        int[] arguments = others.clone();
        arguments[place] = value;
        return arguments;
    }

    /**
     * NOW is 20; MEMBERS JOINED in WEEKS 0, 0 and 5; each has a PAPER, the last one's was taken back in WEEK 20. What
     * was BOOKED is 48 for WEEK 0, and 48 for WEEKS 18 and 7, in this order.
     */
    private static BreadBox society() {
        BreadBox box = new BreadBox();
        box.join(16, 0);
        box.join(60, 3);
        box.paper(0, 0, 6);
        Boxes.weeks(box, 5);
        box.join(40, 1);
        Boxes.weeks(box, 13);
        box.pay(0, 1000);
        box.pay(1, 1000);
        box.pay(2, 1000);
        box.paper(1, 126, 132);
        Boxes.weeks(box, 1);
        box.paper(2, 49, 55);
        Boxes.weeks(box, 1);
        box.back(2);
        return box;
    }

    private static void newObject() {
        BreadBox box = new BreadBox();
        CHECKS.due("1: pay", box.pay(0, 1), NO_COINS);
        CHECKS.due("1: paper", box.paper(0, 0, 0), NONE);
        CHECKS.no("1: back", box.back(0));
        CHECKS.due("1: grant", box.grant(0, 0, 0), NONE);
        CHECKS.due("1: day", box.day(0, 0, 0), NONE);
        CHECKS.due("1: arrears", box.arrears(0, 0, 0), NO_COINS);
        CHECKS.no("1: out", box.out(0, 0, 0));
        CHECKS.due("1: what", box.what(0, 0, 0, 0, 0), NONE);
        CHECKS.due("1: booked", box.booked(0, 0), 0);
        CHECKS.due("1: worth", box.worth(0, 1, 0), NO_COINS);
        CHECKS.due("1: worth", box.worth(0, 1, 1), NO_COINS);
        for (int what = 0; what < 8; what++) {
            CHECKS.due("1: entry", box.entry(0, what), NO_COINS);
            CHECKS.due("1: member", box.member(0, what), NONE);
            CHECKS.due("1: told", box.told(0, what), NONE);
            CHECKS.due("1: count " + what, box.count(what), 0);
        }
        for (int lodge = 0; lodge < 4; lodge++) {
            for (int what = 0; what < 3; what++) {
                CHECKS.due("1: lodge " + lodge, box.lodge(lodge, what), 0);
            }
        }
        CHECKS.due("1: the first MEMBER", box.join(30, 0), 0);
        CHECKS.due("1: the first RULE", box.rule(0, 0, 0), 1);
        CHECKS.due("1: the first PAPER", box.paper(0, 0, 0), 0);
        CHECKS.due("1: the first WEEK", box.week(), 0);
    }

    /** What one object is told no other one knows. */
    private static void objectsApart() {
        BreadBox one = society();
        one.rule(Boxes.WHOLE, 0, 100);
        one.table(30, 0, 0);
        one.table(16, 1000, 365);
        one.table(40, 0, 0);
        BreadBox other = new BreadBox();
        for (int what = 0; what < 8; what++) {
            CHECKS.due("1: apart, count " + what, other.count(what), 0);
        }
        CHECKS.due("1: apart, its RULES", other.force(Boxes.WHOLE, 0, 0), 12);
        CHECKS.due("1: apart, its MEMBER", other.join(30, 0), 0);
        CHECKS.due("1: apart, its TABLES", other.worth(0, 1, 0), -124);
        other.rule(Boxes.WHOLE, 0, 1);
        CHECKS.due("1: apart, the other way", one.force(Boxes.WHOLE, 0, NOW), 100);
        CHECKS.due("1: apart, the other way", one.count(1), MEMBERS);
        CHECKS.due("1: apart, the other way", one.member(0, 0), 16);
        CHECKS.due("1: apart, the other way", one.worth(0, 1, 0), 365 * 100 - 208);
        CHECKS.due("1: apart, the other way", one.worth(2, 1, 0), NO_COINS);
        other.paper(0, 0, 0);
        CHECKS.due("1: apart, the other way", one.told(0, 2), 6);
        CHECKS.due("1: apart, the other way", one.entry(0, 3), 48);
    }

    private static void join() {
        Call call = (box, a) -> box.join(a[0], a[1]);
        bound("2: join", call, NONE, new int[] {30, 0}, 0, 16, 60);
        bound("2: join", call, NONE, new int[] {30, 0}, 1, 0, 3);
        CHECKS.due("2: both out of bounds", new BreadBox().join(15, 4), NONE);
        BreadBox box = new BreadBox();
        for (int m = 0; m < 40; m++) {
            CHECKS.due("2: refused ones take no place", box.join(61, 0), NONE);
            CHECKS.due("2: number " + m, box.join(30, 0), m);
        }
        for (int age : new int[] {16, 30, 60}) {
            CHECKS.due("2: there are 40", box.join(age, 0), NONE);
        }
        box.week();
        CHECKS.due("2: nor in a later WEEK", box.join(30, 0), NONE);
    }

    private static void pay() {
        Call call = (box, a) -> box.pay(a[0], a[1]);
        bound("3: pay", call, NO_COINS, new int[] {0, 5}, 0, 0, MEMBERS - 1);
        bound("3: pay", call, NO_COINS, new int[] {0, 5}, 1, 1, 1000);
        BreadBox box = new BreadBox();
        box.join(30, 0);
        box.week();
        CHECKS.due("3: behind", box.pay(0, 3), 1);
        CHECKS.due("3: even", box.pay(0, 1), 0);
        CHECKS.due("3: ahead", box.pay(0, 1), -1);
        CHECKS.due("3: refused", box.pay(0, 0), NO_COINS);
        CHECKS.due("3: refused", box.pay(0, 1001), NO_COINS);
        CHECKS.due("3: refused", box.pay(0, -1), NO_COINS);
        CHECKS.due("3: as it was", box.arrears(0, 1, 1), -1);
        CHECKS.due("3: paid", box.member(0, 3), 5);
        CHECKS.due("3: paid", box.count(7), 5);
    }

    private static void rule() {
        Call call = (box, a) -> box.rule(a[0], a[1], a[2]);
        bound("4: rule", call, NONE, new int[] {0, 0, 1}, 0, 0, 6);
        for (int kind = 0; kind < 7; kind++) {
            bound("4: rule " + kind, call, NONE, new int[] {kind, 0, 1}, 1, 0, 1000);
            bound("4: rule " + kind, call, NONE, new int[] {kind, 0, 1}, 2,
                Boxes.LEAST_VALUE[kind], Boxes.MOST_VALUE[kind]);
        }
        BreadBox box = society();
        CHECKS.due("4: from a WEEK that is over", box.rule(2, 0, 50), 1);
        CHECKS.due("4: from the WEEK ahead", box.rule(2, NOW - 1, 51), 2);
        CHECKS.due("4: from this WEEK", box.rule(2, NOW, 52), 3);
        CHECKS.due("4: from the next WEEK", box.rule(2, NOW + 1, 53), 4);
        for (int told = 4; told < 200; told++) {
            CHECKS.due("4: refused ones do not count", box.rule(told % 7, told, -1), NONE);
            CHECKS.due("4: told", box.rule(told % 7, told, 1), told + 1);
        }
        CHECKS.due("4: 200 were told", box.rule(0, 0, 1), NONE);
        box.week();
        CHECKS.due("4: nor in a later WEEK", box.rule(6, 1000, 1), NONE);
        CHECKS.due("4: 200 were told", box.count(2), 200);
        CHECKS.due("4: the last one is in force", box.force(199 % 7, 199, NOW), 1);
    }

    private static void paper() {
        Call call = (box, a) -> box.paper(a[0], a[1], a[2]);
        bound("5: paper", call, NONE, new int[] {0, 60, 60}, 0, 0, MEMBERS - 1);
        bound("5: paper, of WEEK 0", call, NONE, new int[] {0, 60, 60}, 1, 0, 60);
        bound("5: paper, of WEEK 5", call, NONE, new int[] {2, 60, 60}, 1, 35, 60);
        bound("5: paper", call, NONE, new int[] {0, 60, 60}, 2, 60, 7 * NOW + 6);
        CHECKS.due("5: both behind this WEEK", society().paper(0, 7 * NOW + 7, 7 * NOW + 7), NONE);
        CHECKS.due("5: both below 0", society().paper(0, -1, -1), NONE);
        CHECKS.due("5: all there is", society().paper(0, 0, 7 * NOW + 6), PAPERS);
        CHECKS.due("5: far out", society().paper(0, Integer.MIN_VALUE, Integer.MIN_VALUE), NONE);
        CHECKS.due("5: far out", society().paper(0, Integer.MAX_VALUE, Integer.MAX_VALUE), NONE);
        CHECKS.due("5: far out", society().paper(0, Integer.MIN_VALUE, Integer.MAX_VALUE), NONE);
        CHECKS.due("5: far out", society().paper(0, Integer.MIN_VALUE, 0), NONE);
        CHECKS.due("5: far out", society().paper(0, 0, Integer.MAX_VALUE), NONE);
        CHECKS.due("5: far out", society().paper(0, Integer.MAX_VALUE, Integer.MIN_VALUE), NONE);
    }

    private static void paperByDays() {
        Supplier<BreadBox> late = () -> Boxes.withoutDues(1, 70);
        Call call = (box, a) -> box.paper(a[0], a[1], a[2]);
        bound(late, "5: paper, 400 DAYS up to the last", call, NONE, new int[] {0, 450, 450}, 1, 51, 450);
        bound(late, "5: paper, 400 DAYS from the first", call, NONE, new int[] {0, 50, 50}, 2, 50, 449);
        Supplier<BreadBox> last = () -> Boxes.withoutDues(1, 300);
        bound(last, "5: paper in WEEK 300", call, NONE, new int[] {0, 2106, 2106}, 1, 1707, 2106);
        bound(last, "5: paper in WEEK 300", call, NONE, new int[] {0, 2100, 2100}, 2, 2100, 2106);
        BreadBox box = late.get();
        CHECKS.due("5: 401 DAYS", box.paper(0, 0, 400), NONE);
        CHECKS.due("5: 400 DAYS", box.paper(0, 0, 399), 0);
        CHECKS.due("5: all of them", box.grant(0, 57, 70), 3);
        for (int i = 1; i < 200; i++) {
            CHECKS.due("5: refused ones take no place", box.paper(0, i, i - 1), NONE);
            CHECKS.due("5: number " + i, box.paper(0, i, i), i);
        }
        CHECKS.due("5: there are 200", box.paper(0, 400, 400), NONE);
        CHECKS.due("5: not SICK", box.day(0, 400, 70), 0);
        box.back(199);
        box.week();
        CHECKS.due("5: there are 200 still", box.paper(0, 400, 400), NONE);
    }

    private static void back() {
        Call call = (box, a) -> box.back(a[0]) ? 1 : 0;
        bound("6: back", call, 0, new int[] {0}, 0, 0, PAPERS - 2);
        BreadBox box = society();
        CHECKS.no("6: it was, in this WEEK", box.back(2));
        box.week();
        CHECKS.no("6: it was, in the WEEK ahead", box.back(2));
        CHECKS.due("6: in which", box.told(2, 4), NOW);
        CHECKS.yes("6: another", box.back(0));
        CHECKS.no("6: it was", box.back(0));
        CHECKS.due("6: in which", box.told(0, 4), NOW + 1);
        CHECKS.no("6: none such", box.back(3));
        CHECKS.due("6: told once more", box.paper(0, 0, 6), 3);
        CHECKS.yes("6: and taken back", box.back(3));
        CHECKS.no("6: none in a new object", new BreadBox().back(0));
    }

    private static void week() {
        BreadBox box = society();
        CHECKS.due("7: BOOKED so far", box.count(4), 3);
        CHECKS.due("7: one is taken back", box.week(), 1);
        CHECKS.due("7: NOW is 1 more", box.count(0), NOW + 1);
        CHECKS.due("7: none", box.week(), 0);
        CHECKS.due("7: NOW is 1 more", box.count(0), NOW + 2);
        Boxes.weeks(box, 300 - NOW - 3);
        CHECKS.due("7: NOW", box.count(0), 299);
        CHECKS.yes("7: in WEEK 299", box.back(0));
        CHECKS.due("7: BOOKED in WEEK 299", box.week(), 1);
        CHECKS.due("7: NOW", box.count(0), 300);
        CHECKS.due("7: NOW is 300", box.week(), NONE);
        CHECKS.due("7: NOW", box.count(0), 300);
    }

    private static void table() {
        Call call = (box, a) -> box.table(a[0], a[1], a[2]) ? 1 : 0;
        bound("8: table", call, 0, new int[] {30, 5, 5}, 0, 0, 99);
        bound("8: table", call, 0, new int[] {30, 5, 5}, 1, 0, 1000);
        bound("8: table", call, 0, new int[] {30, 5, 5}, 2, 0, 365);
        BreadBox box = society();
        CHECKS.no("8: refused", box.table(16, 1001, 0));
        CHECKS.no("8: refused", box.table(16, 0, 366));
        CHECKS.no("8: refused", box.table(16, -1, 0));
        CHECKS.no("8: refused", box.table(16, 0, -1));
        CHECKS.due("8: LIVING and SICK as at first", box.worth(0, 1, 0), 4 * 12 - 208);
        CHECKS.yes("8: all SICK", box.table(16, 1000, 365));
        CHECKS.due("8: all SICK", box.worth(0, 1, 0), 365 * 12 - 208);
    }

    private static void force() {
        Call call = (box, a) -> box.force(a[0], a[1], a[2]);
        bound("9: force", call, NONE, new int[] {0, 0, 0}, 0, 0, 6);
        for (int kind = 0; kind < 7; kind++) {
            bound("9: force", call, NONE, new int[] {kind, 0, 0}, 1, 0, 1000);
            bound("9: force", call, NONE, new int[] {kind, 0, 0}, 2, 0, NOW);
        }
        CHECKS.due("9: of a new object", new BreadBox().force(0, 1000, 0), 4);
        CHECKS.due("9: of a new object", new BreadBox().force(0, 0, 1), NONE);
    }

    private static void grant() {
        Call call = (box, a) -> box.grant(a[0], a[1], a[2]);
        bound("10: grant", call, NONE, new int[] {0, 0, 0}, 0, 0, MEMBERS - 1);
        bound("10: grant", call, NONE, new int[] {0, 0, NOW}, 1, 0, NOW);
        bound("10: grant", call, NONE, new int[] {0, 0, 0}, 2, 0, NOW);
        BreadBox box = society();
        CHECKS.due("10: ahead of JOINED", box.grant(2, 0, NOW), 0);
        CHECKS.due("10: as known ahead of JOINED", box.grant(2, NOW, 0), 0);
        CHECKS.due("10: told behind its WEEK", box.grant(2, 7, NOW - 1), 48);
        CHECKS.due("10: told in its WEEK", box.grant(1, 18, 18), 48);
        CHECKS.due("10: told in WEEK 0", box.grant(0, 0, 0), 48);
    }

    private static void day() {
        Call call = (box, a) -> box.day(a[0], a[1], a[2]);
        bound("11: day", call, NONE, new int[] {0, 0, 0}, 0, 0, MEMBERS - 1);
        bound("11: day", call, NONE, new int[] {0, 0, NOW}, 1, 0, 7 * NOW + 6);
        bound("11: day", call, NONE, new int[] {0, 0, 0}, 2, 0, NOW);
        BreadBox box = society();
        CHECKS.due("11: DAY 0", box.day(0, 0, 0), 1);
        CHECKS.due("11: the last DAY", box.day(0, 7 * NOW + 6, NOW), 0);
        box.paper(0, 7 * NOW + 6, 7 * NOW + 6);
        CHECKS.due("11: the last DAY is SICK", box.day(0, 7 * NOW + 6, NOW), 1);
        CHECKS.due("11: a DAY behind is none", box.day(0, 7 * NOW + 7, NOW), NONE);
        CHECKS.due("11: DAY 0 of a new one", new BreadBox().day(0, 0, 0), NONE);
    }

    private static void arrears() {
        Call call = (box, a) -> box.arrears(a[0], a[1], a[2]);
        bound("12: arrears", call, NO_COINS, new int[] {0, 0, 0}, 0, 0, MEMBERS - 1);
        bound("12: arrears", call, NO_COINS, new int[] {0, 0, NOW}, 1, 0, NOW);
        bound("12: arrears", call, NO_COINS, new int[] {0, 0, 0}, 2, 0, NOW);
        CHECKS.due("12: all", society().arrears(0, NOW, NOW), 80 - 1000);
        CHECKS.due("12: as known in WEEK 0", society().arrears(0, NOW, 0), 80);
        CHECKS.due("12: in WEEK 0", society().arrears(0, 0, NOW), 0);
    }

    /** In WEEK 0 nobody can be OUT, so the least WEEK that can be told apart from others is 1. */
    private static void out() {
        Supplier<BreadBox> allOut = () -> {
            BreadBox box = new BreadBox();
            box.rule(Boxes.TILL_OUT, 0, 0);
            for (int m = 0; m < MEMBERS; m++) {
                box.join(30, 0);
            }
            Boxes.weeks(box, NOW);
            return box;
        };
        Call call = (box, a) -> box.out(a[0], a[1], a[2]) ? 1 : 0;
        bound(allOut, "13: out", call, 0, new int[] {0, 1, 0}, 0, 0, MEMBERS - 1);
        bound(allOut, "13: out", call, 0, new int[] {0, 1, 0}, 1, 1, NOW);
        bound(allOut, "13: out", call, 0, new int[] {0, 1, 0}, 2, 0, NOW);
    }

    private static void what() {
        Call call = (box, a) -> box.what(a[0], a[1], a[2], a[3], a[4]);
        bound("14: what", call, NONE, new int[] {0, 0, 0, 0, 1}, 0, 0, MEMBERS - 1);
        bound("14: what", call, NONE, new int[] {0, 0, 0, 0, 1}, 1, 0, NOW);
        bound("14: what", call, NONE, new int[] {0, 0, 0, 0, 1}, 2, 0, 6);
        for (int kind = 0; kind < 7; kind++) {
            bound("14: what " + kind, call, NONE, new int[] {0, 0, kind, 0, 1}, 3, 0, 1000);
            bound("14: what " + kind, call, NONE, new int[] {0, 0, kind, 0, 1}, 4,
                Boxes.LEAST_VALUE[kind], Boxes.MOST_VALUE[kind]);
        }
        BreadBox box = society();
        CHECKS.due("14: from its WEEK", box.what(1, 18, Boxes.WHOLE, 18, 20), 80);
        CHECKS.due("14: from the next", box.what(1, 18, Boxes.WHOLE, 19, 20), 48);
        CHECKS.due("14: from WEEK 0", box.what(1, 18, Boxes.WHOLE, 0, 20), 80);
        CHECKS.due("14: known NOW alone: it was taken back", box.what(2, 7, Boxes.WHOLE, 0, 20), 0);
        box.rule(Boxes.WHOLE, 18, 30);
        CHECKS.due("14: told last, from the same WEEK", box.what(1, 18, Boxes.WHOLE, 18, 20), 80);
        CHECKS.due("14: told last, from a WEEK ahead", box.what(1, 18, Boxes.WHOLE, 17, 20), 120);
    }

    private static void booked() {
        BreadBox box = society();
        CHECKS.due("15: WEEK 0", box.booked(0, 0), 48);
        CHECKS.due("15: WEEK 18", box.booked(1, 18), 48);
        CHECKS.due("15: WEEK 7", box.booked(2, 7), 48);
        CHECKS.due("15: this WEEK", box.booked(2, NOW), 0);
        for (int value : FAR) {
            CHECKS.due("15: MEMBER " + value, box.booked(value, 0), 0);
            CHECKS.due("15: WEEK " + value, box.booked(0, value), 0);
        }
        for (int value : new int[] {-1, MEMBERS, MEMBERS + 1, 39, 40}) {
            CHECKS.due("15: MEMBER " + value, box.booked(value, 0), 0);
        }
        for (int value : new int[] {-1, 1, NOW, NOW + 1, 299, 300, 301}) {
            CHECKS.due("15: WEEK " + value, box.booked(0, value), 0);
        }
        box.week();
        CHECKS.due("15: nothing in all", box.booked(2, 7), 0);
    }

    private static void entry() {
        Call call = (box, a) -> box.entry(a[0], a[1]);
        bound("16: entry", call, NO_COINS, new int[] {0, 0}, 0, 0, 2);
        for (int i = 0; i < 3; i++) {
            bound("16: entry", call, NO_COINS, new int[] {i, 0}, 1, 0, 3);
        }
        BreadBox box = society();
        int[][] entries = {{0, 0, 0, 48}, {18, 18, 1, 48}, {19, 7, 2, 48}};
        rows("16: entry", box, call, entries);
    }

    private static void worth() {
        Call call = (box, a) -> box.worth(a[0], a[1], a[2]);
        bound("17: worth", call, NO_COINS, new int[] {0, 1, 0}, 0, 0, MEMBERS - 1);
        bound("17: worth", call, NO_COINS, new int[] {0, 1, 0}, 1, 1, 50);
        bound("17: worth", call, NO_COINS, new int[] {0, 1, 1}, 1, 1, 50);
        bound("17: worth", call, NO_COINS, new int[] {0, 1, 0}, 2, 0, 1);
    }

    private static void lodge() {
        Call call = (box, a) -> box.lodge(a[0], a[1]);
        for (int what = 0; what < 3; what++) {
            bound("18: lodge", call, NONE, new int[] {0, what}, 0, 0, 3);
        }
        for (int lodge = 0; lodge < 4; lodge++) {
            bound("18: lodge", call, NONE, new int[] {lodge, 0}, 1, 0, 2);
        }
        BreadBox box = society();
        int[][] lodges = {{1, 1000, 48}, {1, 1000, 48}, {0, 0, 0}, {1, 1000, 48}};
        rows("18: lodge", box, call, lodges);
        box.week();
        CHECKS.due("18: less", box.lodge(1, 2), 0);
        box.paper(2, 35, 41);
        box.week();
        CHECKS.due("18: more", box.lodge(1, 2), 48);
    }

    private static void member() {
        Call call = (box, a) -> box.member(a[0], a[1]);
        for (int what = 0; what < 4; what++) {
            bound("19: member", call, NONE, new int[] {0, what}, 0, 0, MEMBERS - 1);
        }
        bound("19: member", call, NONE, new int[] {0, 0}, 1, 0, 3);
        BreadBox box = society();
        int[][] members = {{16, 0, 0, 1000}, {60, 3, 0, 1000}, {40, 1, 5, 1000}};
        rows("19: member", box, call, members);
    }

    private static void told() {
        Call call = (box, a) -> box.told(a[0], a[1]);
        for (int what = 0; what < 4; what++) {
            bound("20: told", call, NONE, new int[] {0, what}, 0, 0, PAPERS - 1);
        }
        bound("20: told", call, NONE, new int[] {2, 0}, 1, 0, 4);
        BreadBox box = society();
        int[][] papers = {{0, 0, 6, 0, NONE}, {1, 126, 132, 18, NONE}, {2, 49, 55, 19, NOW}};
        rows("20: told", box, call, papers);
        BreadBox early = new BreadBox();
        early.join(30, 0);
        early.paper(0, 0, 0);
        early.back(0);
        CHECKS.due("20: taken back in WEEK 0", early.told(0, 4), 0);
    }

    private static void count() {
        bound("21: count", (box, a) -> box.count(a[0]), NO_COINS, new int[] {0}, 0, 0, 7);
        BreadBox box = society();
        int[] counts = {NOW, MEMBERS, 0, PAPERS, 3, 3000 - 144, 0, 3000};
        for (int what = 0; what < 8; what++) {
            CHECKS.due("21: count " + what, box.count(what), counts[what]);
        }
        box.rule(Boxes.DUE, 0, 100);
        box.rule(Boxes.TILL_OUT, 0, 5);
        CHECKS.due("21: two RULES", box.count(2), 2);
        CHECKS.due("21: two owe 1,000, one owes 500", box.count(6), 2);
        box.pay(0, 499);
        CHECKS.due("21: 501 are more than 500", box.count(6), 2);
        box.pay(0, 1);
        CHECKS.due("21: 500 are not", box.count(6), 1);
    }

    /** Forty MEMBERS, 200 RULES and 200 PAPERS: the numbers behind the last ones are none. */
    private static void allPlacesTaken() {
        BreadBox box = new BreadBox();
        for (int m = 0; m < 40; m++) {
            box.join(30, 3);
        }
        for (int i = 0; i < 200; i++) {
            box.paper(i % 40, i % 7, i % 7);
            box.rule(Boxes.HALF_DAYS, i, i);
        }
        CHECKS.due("pay", box.pay(39, 7), -7);
        CHECKS.due("pay", box.pay(40, 7), NO_COINS);
        CHECKS.due("paper", box.paper(40, 0, 0), NONE);
        CHECKS.due("grant", box.grant(39, 0, 0), 24);
        CHECKS.due("grant", box.grant(40, 0, 0), NONE);
        CHECKS.due("day", box.day(39, 0, 0), 1);
        CHECKS.due("day", box.day(40, 0, 0), NONE);
        CHECKS.due("arrears", box.arrears(39, 0, 0), -7);
        CHECKS.due("arrears", box.arrears(40, 0, 0), NO_COINS);
        CHECKS.no("out", box.out(40, 0, 0));
        CHECKS.due("what", box.what(39, 0, Boxes.WHOLE, 0, 20), 40);
        CHECKS.due("what", box.what(40, 0, Boxes.WHOLE, 0, 20), NONE);
        CHECKS.due("booked", box.booked(40, 0), 0);
        CHECKS.other("worth", box.worth(39, 1, 0), NO_COINS);
        CHECKS.due("worth", box.worth(40, 1, 0), NO_COINS);
        CHECKS.due("member", box.member(39, 3), 7);
        CHECKS.due("member", box.member(40, 3), NONE);
        CHECKS.due("lodge", box.lodge(3, 0), 40);
        CHECKS.due("told", box.told(199, 1), 199 % 7);
        CHECKS.due("told", box.told(200, 1), NONE);
        CHECKS.no("back", box.back(200));
        CHECKS.yes("back", box.back(199));
        CHECKS.due("force", box.force(Boxes.HALF_DAYS, 1000, 0), 199);
        CHECKS.due("week", box.week(), 40);
        CHECKS.due("the last entry", box.entry(39, 2), 39);
    }
}
