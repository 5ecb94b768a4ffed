import java.util.ArrayList;
import java.util.List;

/**
 * The document once more, written apart from BreadBox and as near to its words as can be: nothing is kept that can be
 * worked out again, and every day is looked at by itself. Slow, and only there to be compared with.
 */
final class PlainBox {
    static final int NONE = -1;
    static final int NO_COINS = -1_000_000;
    private static final int[][] BOUNDS = {{0, 100}, {0, 14}, {0, 100}, {1, 400}, {0, 400}, {0, 400}, {0, 50}};
    private static final int[] AT_FIRST = {4, 3, 12, 30, 60, 28, 8};

    private record Rule(int kind, int from, int value, int told) { }

    private record Member(int age, int lodge, int joined) { }

    private record Payment(int member, int coins, int week) { }

    private record Booking(int week, int forWeek, int member, int coins) { }

    private static final class Paper {
        int member;
        int first;
        int last;
        int told;
        int back = NONE;
    }

    private final List<Rule> rules = new ArrayList<>();
    private final List<Member> members = new ArrayList<>();
    private final List<Payment> payments = new ArrayList<>();
    private final List<Paper> papers = new ArrayList<>();
    private final List<Booking> bookings = new ArrayList<>();
    private final int[][] booked = new int[40][301];
    private final int[] living = new int[200];
    private final int[] sickDays = new int[200];
    private int now = 0;

    PlainBox() {
        for (int age = 0; age <= 99; age++) {
            living[age] = 1000 - 10 * age;
            sickDays[age] = age / 4;
        }
    }

    private static boolean within(int x, int least, int most) {
        return least <= x && x <= most;
    }

    private boolean isMember(int member) {
        return within(member, 0, members.size() - 1);
    }

    private static boolean isRule(int kind, int from, int value) {
        return within(kind, 0, 6) && within(from, 0, 1000) && within(value, BOUNDS[kind][0], BOUNDS[kind][1]);
    }

    int join(int age, int lodge) {
        if (members.size() == 40 || !within(age, 16, 60) || !within(lodge, 0, 3)) {
            return NONE;
        }
        members.add(new Member(age, lodge, now));
        return members.size() - 1;
    }

    int pay(int member, int coins) {
        if (!isMember(member) || !within(coins, 1, 1000)) {
            return NO_COINS;
        }
        payments.add(new Payment(member, coins, now));
        return arrears(member, now, now);
    }

    int rule(int kind, int from, int value) {
        if (!isRule(kind, from, value) || rules.size() == 200) {
            return NONE;
        }
        rules.add(new Rule(kind, from, value, now));
        return rules.size();
    }

    int paper(int member, int first, int last) {
        if (!isMember(member) || first > last || first < 7 * members.get(member).joined) {
            return NONE;
        }
        if ((long) last - first + 1 > 400 || last > 7 * now + 6 || papers.size() == 200) {
            return NONE;
        }
        Paper paper = new Paper();
        paper.member = member;
        paper.first = first;
        paper.last = last;
        paper.told = now;
        papers.add(paper);
        return papers.size() - 1;
    }

    boolean back(int paper) {
        if (!within(paper, 0, papers.size() - 1) || papers.get(paper).back != NONE) {
            return false;
        }
        papers.get(paper).back = now;
        return true;
    }

    int week() {
        if (now == 300) {
            return NONE;
        }
        int[][] natures = new int[members.size()][];
        for (int m = 0; m < members.size(); m++) {
            natures[m] = natures(m, now);
        }
        List<Booking> fresh = new ArrayList<>();
        for (int w = 0; w <= now; w++) {
            for (int m = 0; m < members.size(); m++) {
                int difference = coins(natures[m], w, now) - booked[m][w];
                if (difference != 0) {
                    fresh.add(new Booking(now, w, m, difference));
                }
            }
        }
        if (bookings.size() + fresh.size() > 20_000) {
            return NONE;
        }
        for (Booking b : fresh) {
            booked[b.member][b.forWeek] += b.coins;
        }
        bookings.addAll(fresh);
        now++;
        return fresh.size();
    }

    boolean table(int age, int alive, int sick) {
        if (!within(age, 0, 99) || !within(alive, 0, 1000) || !within(sick, 0, 365)) {
            return false;
        }
        living[age] = alive;
        sickDays[age] = sick;
        return true;
    }

    int force(int kind, int w, int q) {
        if (!within(kind, 0, 6) || !within(w, 0, 1000) || !within(q, 0, now)) {
            return NONE;
        }
        Rule best = null;
        for (Rule r : rules) {
            if (r.kind == kind && r.told <= q && r.from <= w && (best == null || r.from >= best.from)) {
                best = r;
            }
        }
        return best == null ? AT_FIRST[kind] : best.value;
    }

    private boolean isSick(int member, int day, int q) {
        for (Paper p : papers) {
            boolean known = p.told <= q && (p.back == NONE || p.back > q);
            if (known && p.member == member && p.first <= day && day <= p.last) {
                return true;
            }
        }
        return false;
    }

    /** What each DAY up to the end of this WEEK is, as day() tells it. */
    private int[] natures(int member, int q) {
        int[] natures = new int[7 * now + 7];
        int ahead = NONE;
        int begun = NONE;
        int n = 0;
        for (int day = 0; day < natures.length; day++) {
            if (!isSick(member, day, q)) {
                continue;
            }
            int w = day / 7;
            int between = day - ahead - 1;
            if (ahead == NONE || between > force(5, w, q)) {
                begun = w;
                n = 0;
            }
            ahead = day;
            n++;
            int waiting = force(1, begun, q);
            int whole = force(3, begun, q);
            int half = force(4, begun, q);
            natures[day] = n <= waiting ? 1 : n - waiting <= whole ? 2 : n - waiting - whole <= half ? 3 : 4;
            if (out(member, w, q)) {
                natures[day] = 5;
            }
        }
        return natures;
    }

    private int coins(int[] natures, int w, int q) {
        int whole = force(2, w, q);
        int[] coins = {0, 0, whole, whole / 2, whole / 4, 0};
        int sum = 0;
        for (int day = 7 * w; day <= 7 * w + 6; day++) {
            sum += coins[natures[day]];
        }
        return sum;
    }

    int grant(int member, int w, int q) {
        if (!isMember(member) || !within(w, 0, now) || !within(q, 0, now)) {
            return NONE;
        }
        return coins(natures(member, q), w, q);
    }

    int day(int member, int day, int q) {
        if (!isMember(member) || !within(day, 0, 7 * now + 6) || !within(q, 0, now)) {
            return NONE;
        }
        return natures(member, q)[day];
    }

    int arrears(int member, int w, int q) {
        if (!isMember(member) || !within(w, 0, now) || !within(q, 0, now)) {
            return NO_COINS;
        }
        int sum = 0;
        for (int v = members.get(member).joined; v < w; v++) {
            sum += force(0, v, q);
        }
        for (Payment p : payments) {
            if (p.member == member && p.week <= w && p.week <= q) {
                sum -= p.coins;
            }
        }
        return sum;
    }

    boolean out(int member, int w, int q) {
        if (!isMember(member) || !within(w, 0, now) || !within(q, 0, now)) {
            return false;
        }
        return arrears(member, w, q) > force(6, w, q) * force(0, w, q);
    }

    int what(int member, int w, int kind, int from, int value) {
        if (!isMember(member) || !within(w, 0, now) || !isRule(kind, from, value)) {
            return NONE;
        }
        rules.add(new Rule(kind, from, value, now));
        int coins = grant(member, w, now);
        rules.remove(rules.size() - 1);
        return coins;
    }

    int booked(int member, int w) {
        return isMember(member) && within(w, 0, 300) ? booked[member][w] : 0;
    }

    int entry(int i, int what) {
        if (!within(i, 0, bookings.size() - 1) || !within(what, 0, 3)) {
            return NO_COINS;
        }
        Booking b = bookings.get(i);
        return new int[] {b.week, b.forWeek, b.member, b.coins}[what];
    }

    long worth(int member, int years, int what) {
        if (!isMember(member) || !within(years, 1, 50) || !within(what, 0, 1)) {
            return NO_COINS;
        }
        int x = members.get(member).age + (now - members.get(member).joined) / 52;
        if (living[x] == 0) {
            return NO_COINS;
        }
        long top = 0;
        for (int t = 0; t < years; t++) {
            top += (long) living[x + t] * (sickDays[x + t] * force(2, now, now) - 52 * force(0, now, now));
        }
        long bottom = living[x];
        for (long d = bottom; d > 1; d--) {
            if (top % d == 0 && bottom % d == 0) {
                top /= d;
                bottom /= d;
            }
        }
        return what == 0 ? top : bottom;
    }

    int lodge(int lodge, int what) {
        if (!within(lodge, 0, 3) || !within(what, 0, 2)) {
            return NONE;
        }
        int sum = 0;
        for (int m = 0; m < members.size(); m++) {
            if (members.get(m).lodge == lodge) {
                sum += new int[] {1, paid(m), bookedInAll(m)}[what];
            }
        }
        return sum;
    }

    private int paid(int member) {
        int sum = 0;
        for (Payment p : payments) {
            sum += p.member == member ? p.coins : 0;
        }
        return sum;
    }

    private int bookedInAll(int member) {
        int sum = 0;
        for (Booking b : bookings) {
            sum += b.member == member ? b.coins : 0;
        }
        return sum;
    }

    int member(int member, int what) {
        if (!isMember(member) || !within(what, 0, 3)) {
            return NONE;
        }
        Member of = members.get(member);
        return new int[] {of.age, of.lodge, of.joined, paid(member)}[what];
    }

    int told(int paper, int what) {
        if (!within(paper, 0, papers.size() - 1) || !within(what, 0, 4)) {
            return NONE;
        }
        Paper of = papers.get(paper);
        return new int[] {of.member, of.first, of.last, of.told, of.back}[what];
    }

    int count(int what) {
        int paid = 0;
        int spent = 0;
        int out = 0;
        for (int m = 0; m < members.size(); m++) {
            paid += paid(m);
            spent += bookedInAll(m);
            out += out(m, now, now) ? 1 : 0;
        }
        int[] counts = {now, members.size(), rules.size(), papers.size(), bookings.size(), paid - spent, out, paid};
        return within(what, 0, 7) ? counts[what] : NO_COINS;
    }
}
