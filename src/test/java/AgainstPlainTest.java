import java.util.Random;

/**
 * Runs of chance calls, each answered by BreadBox and by PlainBox, which must agree; the seeds are fixed. Some runs begin
 * with all places but a few taken, or a few WEEKS ahead of the last one.
 */
public final class AgainstPlainTest {
    private static final int MOST_CALLS = 512;
    private static final int[] EDGES = {-1, 0, 1, 6, 7, 8, 40, 100, 200, 301, 400, 1000, 1001,
        Integer.MIN_VALUE, Integer.MAX_VALUE};
    private static final int[] VALUES_OF_CHANCE = {9, 6, 21, 12, 10, 16, 6};

    private final Random chance;
    private final BreadBox box = new BreadBox();
    private final PlainBox plain = new PlainBox();
    private final StringBuilder calls = new StringBuilder();
    private final int weight;
    private final int mostWeeks;
    private int made;

    private AgainstPlainTest(long seed, int weight, int mostWeeks) {
        this.chance = new Random(seed);
        this.weight = weight;
        this.mostWeeks = mostWeeks;
    }

    public static void main(String[] args) {
        int runs = args.length > 0 ? Integer.parseInt(args[0]) : 400;
        for (int seed = 0; seed < runs; seed++) {
            int weight = 1 + seed % 4;
            boolean late = seed % 20 == 19;
            AgainstPlainTest test = new AgainstPlainTest(seed, weight, late ? 310 : 25 * weight);
            String fault = late ? test.runFromLateWeek() : seed % 5 == 4 ? test.runFromFewPlaces(seed / 5 % 3) : test.run();
            if (fault != null) {
                System.out.println("seed " + seed + ":\n" + test.calls + fault);
                System.exit(1);
            }
        }
        System.out.println("AgainstPlainTest: " + runs + " runs agree");
    }

    private String run() {
        String fault = null;
        while (fault == null && made < MOST_CALLS) {
            fault = oneCall();
        }
        return fault;
    }

    private String runFromLateWeek() {
        int begun = 290 + upTo(9);
        String fault = joins();
        while (fault == null && plain.count(0) < begun) {
            fault = weekEnds();
        }
        return fault == null ? run() : fault;
    }

    /** Begins as all MEMBERS, RULES or PAPERS but a few are there. */
    private String runFromFewPlaces(int which) {
        int begun = which == 0 ? 37 : 190;
        String fault = joins();
        while (fault == null && plain.count(1 + which) < begun && made < MOST_CALLS) {
            fault = which == 0 ? joins() : which == 1 ? tellsRule() : tellsPaper(plain.count(0));
            if (fault == null && chance.nextInt(20) == 0) {
                fault = weekEnds();
            }
        }
        return fault == null ? run() : fault;
    }

    private String weekEnds() {
        return agree("week()", box.week(), plain.week());
    }

    private String agree(String call, long got, long due) {
        made++;
        if (got != due) {
            return call + " answered " + got + ", due is " + due;
        }
        calls.append(call).append(" = ").append(got).append('\n');
        return null;
    }

    private String agree(String call, boolean got, boolean due) {
        return agree(call, got ? 1 : 0, due ? 1 : 0);
    }

    private int upTo(int most) {
        return chance.nextInt(Math.max(most, 0) + 1);
    }

    /** Mostly the number that was meant, now and then an edge or a wrong one. */
    private int maybe(int meant) {
        int odd = chance.nextInt(60);
        if (odd == 0) {
            return EDGES[chance.nextInt(EDGES.length)];
        }
        return odd == 1 ? meant + 1 : odd == 2 ? meant - 1 : meant;
    }

    private int someMember() {
        return maybe(upTo(plain.count(1) - 1));
    }

    private int someWeek() {
        return maybe(upTo(plain.count(0)));
    }

    private int lateWeek() {
        return maybe(plain.count(0) - (chance.nextBoolean() ? 0 : upTo(Math.min(3, plain.count(0)))));
    }

    private int someValue(int kind) {
        if (kind < 0 || kind > 6) {
            return 1;
        }
        return maybe(chance.nextInt(4) == 0 ? upTo(400) : upTo(VALUES_OF_CHANCE[kind]));
    }

    private String oneCall() {
        int now = plain.count(0);
        int pick = chance.nextInt(100);
        if (plain.count(1) == 0 || pick < 3) {
            return joins();
        }
        if (pick < 10) {
            return pays();
        }
        if (pick < 14) {
            return tellsRule();
        }
        if (pick < 24) {
            return tellsPaper(now);
        }
        if (pick < 27) {
            int paper = maybe(upTo(plain.count(3) - 1));
            return agree("back(" + paper + ")", box.back(paper), plain.back(paper));
        }
        if (pick < 30 + 4 * weight && now < mostWeeks) {
            return weekEnds();
        }
        return asks(now);
    }

    private String joins() {
        int age = maybe(16 + upTo(44));
        int lodge = maybe(upTo(3));
        return agree("join(" + age + ", " + lodge + ")", box.join(age, lodge), plain.join(age, lodge));
    }

    private String pays() {
        int member = someMember();
        int coins = maybe(1 + upTo(chance.nextInt(8) == 0 ? 999 : 20));
        return agree("pay(" + member + ", " + coins + ")", box.pay(member, coins), plain.pay(member, coins));
    }

    private String tellsRule() {
        int kind = maybe(upTo(6));
        int from = chance.nextInt(3) == 0 ? maybe(plain.count(0) + upTo(6)) : someWeek();
        int value = someValue(kind);
        return agree("rule(" + kind + ", " + from + ", " + value + ")",
            box.rule(kind, from, value), plain.rule(kind, from, value));
    }

    private String tellsPaper(int now) {
        int member = someMember();
        int joined = Math.max(0, plain.member(member, 2));
        int first = 7 * joined + upTo(7 * (now - joined) + 6);
        int length = chance.nextInt(10) == 0 ? 395 + upTo(10) : upTo(20);
        int last = maybe(chance.nextInt(4) == 0 ? first + length : Math.min(7 * now + 6, first + length));
        first = maybe(first);
        return agree("paper(" + member + ", " + first + ", " + last + ")",
            box.paper(member, first, last), plain.paper(member, first, last));
    }

    private String asks(int now) {
        int m = someMember();
        int w = someWeek();
        int q = lateWeek();
        switch (chance.nextInt(14)) {
            case 0:
                return asksForce();
            case 1:
                return agree("grant(" + m + ", " + w + ", " + q + ")", box.grant(m, w, q), plain.grant(m, w, q));
            case 2:
                int day = maybe(upTo(7 * now + 6));
                return agree("day(" + m + ", " + day + ", " + q + ")", box.day(m, day, q), plain.day(m, day, q));
            case 3:
                return agree("arrears(" + m + ", " + w + ", " + q + ")", box.arrears(m, w, q), plain.arrears(m, w, q));
            case 4:
                return agree("out(" + m + ", " + w + ", " + q + ")", box.out(m, w, q), plain.out(m, w, q));
            case 5:
                return asksWhat(m, w);
            case 6:
                return agree("booked(" + m + ", " + w + ")", box.booked(m, w), plain.booked(m, w));
            case 7:
                int i = maybe(upTo(plain.count(4) - 1));
                int part = maybe(upTo(3));
                return agree("entry(" + i + ", " + part + ")", box.entry(i, part), plain.entry(i, part));
            case 8:
                return asksWorth(m);
            case 9:
                int lodge = maybe(upTo(3));
                int of = maybe(upTo(2));
                return agree("lodge(" + lodge + ", " + of + ")", box.lodge(lodge, of), plain.lodge(lodge, of));
            case 10:
                int mine = maybe(upTo(3));
                return agree("member(" + m + ", " + mine + ")", box.member(m, mine), plain.member(m, mine));
            case 11:
                int p = maybe(upTo(plain.count(3) - 1));
                int its = maybe(upTo(4));
                return agree("told(" + p + ", " + its + ")", box.told(p, its), plain.told(p, its));
            case 12:
                int what = maybe(upTo(7));
                return agree("count(" + what + ")", box.count(what), plain.count(what));
            default:
                return tellsTable();
        }
    }

    private String asksForce() {
        int kind = maybe(upTo(6));
        int w = chance.nextInt(5) == 0 ? maybe(upTo(1000)) : someWeek();
        int q = lateWeek();
        return agree("force(" + kind + ", " + w + ", " + q + ")", box.force(kind, w, q), plain.force(kind, w, q));
    }

    private String asksWhat(int m, int w) {
        int kind = maybe(upTo(6));
        int from = someWeek();
        int value = someValue(kind);
        return agree("what(" + m + ", " + w + ", " + kind + ", " + from + ", " + value + ")",
            box.what(m, w, kind, from, value), plain.what(m, w, kind, from, value));
    }

    private String asksWorth(int m) {
        int years = maybe(1 + upTo(49));
        int what = maybe(upTo(1));
        return agree("worth(" + m + ", " + years + ", " + what + ")",
            box.worth(m, years, what), plain.worth(m, years, what));
    }

    private String tellsTable() {
        int age = maybe(upTo(99));
        int living = maybe(upTo(chance.nextInt(5) == 0 ? 0 : 1000));
        int sick = maybe(upTo(365));
        return agree("table(" + age + ", " + living + ", " + sick + ")",
            box.table(age, living, sick), plain.table(age, living, sick));
    }
}
