import java.util.Random;

/** LANGUAGE.md, rule 7: no call ever throws, for any arguments in any state, and beyond the 512th call too. */
public final class WildCallsTest {
    private static final int OBJECTS = 60;
    private static final int CALLS = 3000;
    private static final int[] FAR = {Integer.MIN_VALUE, Integer.MIN_VALUE + 1, -(1 << 30), -1000, -1, 15, 16, 39, 40, 60,
        61, 99, 100, 199, 200, 201, 299, 300, 301, 399, 400, 401, 999, 1000, 1001, 2099, 2100, 2106, 2107, 19_999, 20_000,
        1 << 29, 1 << 30, Integer.MAX_VALUE - 1, Integer.MAX_VALUE};

    private final Random chance;
    private final BreadBox box = new BreadBox();

    private WildCallsTest(long seed) {
        this.chance = new Random(seed);
    }

    public static void main(String[] args) {
        long sum = 0;
        for (int seed = 0; seed < OBJECTS; seed++) {
            WildCallsTest wild = new WildCallsTest(seed);
            for (int call = 0; call < CALLS; call++) {
                sum += seed % 2 == 0 || call % 3 == 0 ? wild.changes() : wild.asks();
            }
        }
        System.out.println("WildCallsTest: " + OBJECTS * CALLS + " calls threw nothing, sum " + sum);
    }

    private int any(int most) {
        int pick = chance.nextInt(24);
        return pick == 0 ? chance.nextInt() : pick == 1 ? FAR[chance.nextInt(FAR.length)] : chance.nextInt(most + 1);
    }

    private int anyMember() {
        return any(Math.max(0, box.count(1) - 1));
    }

    private int anyWeek() {
        return any(box.count(0));
    }

    private int anyDay() {
        return any(7 * box.count(0) + 6);
    }

    private long changes() {
        switch (chance.nextInt(8)) {
            case 0:
                return box.join(16 + any(44), any(3));
            case 1:
                return box.pay(anyMember(), any(1000));
            case 2:
                return box.rule(any(6), anyWeek(), any(50));
            case 3:
            case 4:
                int first = anyDay();
                return box.paper(anyMember(), first, first + any(400));
            case 5:
                return box.back(any(200)) ? 1 : 0;
            case 6:
                return box.table(any(99), any(1000), any(365)) ? 1 : 0;
            default:
                return box.week();
        }
    }

    private long asks() {
        switch (chance.nextInt(13)) {
            case 0:
                return box.force(any(6), any(1000), anyWeek());
            case 1:
                return box.grant(anyMember(), anyWeek(), anyWeek());
            case 2:
                return box.day(anyMember(), anyDay(), anyWeek());
            case 3:
                return box.arrears(anyMember(), anyWeek(), anyWeek());
            case 4:
                return box.out(anyMember(), anyWeek(), anyWeek()) ? 1 : 0;
            case 5:
                return box.what(anyMember(), anyWeek(), any(6), any(1000), any(50));
            case 6:
                return box.booked(anyMember(), anyWeek());
            case 7:
                return box.entry(any(20_000), any(3));
            case 8:
                return box.worth(anyMember(), any(50), any(1));
            case 9:
                return box.lodge(any(3), any(2));
            case 10:
                return box.member(anyMember(), any(3));
            case 11:
                return box.told(any(200), any(4));
            default:
                return box.count(any(7));
        }
    }
}
