import java.util.Arrays;

/**
 * A society of neighbours who pay by the week so that whoever is sick has bread.
 * The words in comments (WEEK, GRANT, ILLNESS ..) are those of the document.
 */
public final class BreadBox {
    public static final int NONE = -1;

    private static final int NO_COINS = -1000000;

    private static final int LAST_WEEK = 300;
    private static final int WEEKS = LAST_WEEK + 1;
    private static final int DAYS_A_WEEK = 7;
    private static final int WEEKS_A_YEAR = 52;

    private static final int MOST_MEMBERS = 40;
    private static final int LEAST_AGE = 16;
    private static final int MOST_AGE = 60;
    private static final int LODGES = 4;
    private static final int MOST_PAID = 1000;

    private static final int MOST_PAPERS = 200;
    private static final int LONGEST_PAPER = 400;
    private static final int MOST_BOOKINGS = 20000;
    private static final int MOST_YEARS = 50;

    private static final int DUE = 0;
    private static final int WAITING = 1;
    private static final int WHOLE = 2;
    private static final int WHOLE_DAYS = 3;
    private static final int HALF_DAYS = 4;
    private static final int JOINING = 5;
    private static final int TILL_OUT = 6;

    private static final int NOT_SICK = 0;
    private static final int WAITING_DAY = 1;
    private static final int WHOLE_DAY = 2;
    private static final int HALF_DAY = 3;
    private static final int QUARTER_DAY = 4;
    private static final int OUT_DAY = 5;

    private final Member[] members = new Member[MOST_MEMBERS];
    private final Paper[] papers = new Paper[MOST_PAPERS];
    private final Rules rules = new Rules();
    private final Course course = new Course(rules);
    private final Ledger ledger = new Ledger();
    private final Tables tables = new Tables();
    private int memberCount;
    private int paperCount;
    private int now;

    public BreadBox() {
    }

    public int join(int age, int lodge) {
        if (age < LEAST_AGE || age > MOST_AGE || lodge < 0 || lodge >= LODGES) {
            return NONE;
        }
        if (memberCount >= MOST_MEMBERS) {
            return NONE;
        }
        members[memberCount] = new Member(age, lodge, now);
        memberCount++;
        return memberCount - 1;
    }

    public int pay(int member, int coins) {
        Member payer = memberAt(member);
        if (payer == null || coins < 1 || coins > MOST_PAID) {
            return NO_COINS;
        }
        payer.paidUpTo[now] += coins;
        rules.lookFrom(now, now);
        return payer.arrearsIn(now, now, rules);
    }

    public int rule(int kind, int from, int value) {
        if (!Rules.mayBe(kind, from, value) || rules.isFull()) {
            return NONE;
        }
        rules.add(kind, from, value, now);
        for (int m = 0; m < memberCount; m++) {
            members[m].stale = true;
        }
        return rules.size;
    }

    public int paper(int member, int first, int last) {
        Member sick = memberAt(member);
        if (sick == null || paperCount >= MOST_PAPERS) {
            return NONE;
        }
        if (first < DAYS_A_WEEK * sick.joined || last < first || last > lastDayOf(now)) {
            return NONE;
        }
        if (last - first + 1 > LONGEST_PAPER) {
            return NONE;
        }
        Paper added = new Paper(member, first, last, now);
        papers[paperCount] = added;
        paperCount++;
        sick.take(added);
        sick.stale = true;
        return paperCount - 1;
    }

    public boolean back(int paper) {
        Paper taken = paperAt(paper);
        if (taken == null || taken.takenBackIn != NONE) {
            return false;
        }
        taken.takenBackIn = now;
        Member sick = memberAt(taken.memberNumber);
        if (sick != null) {
            sick.stale = true;
        }
        return true;
    }

    public int week() {
        if (now >= LAST_WEEK) {
            return NONE;
        }
        int differences = workAnew();
        if (differences > MOST_BOOKINGS - ledger.size) {
            return NONE;
        }
        if (differences > 0) {
            bookDifferences(differences);
        }
        for (int m = 0; m < memberCount; m++) {
            members[m].endWeek(now);
        }
        now++;
        return differences;
    }

    public boolean table(int age, int living, int sick) {
        return tables.change(age, living, sick);
    }

    public int force(int kind, int w, int q) {
        if (!Rules.isKind(kind) || !Rules.isWeek(w) || !isPast(q)) {
            return NONE;
        }
        return rules.inForce(kind, w, q);
    }

    public int grant(int member, int w, int q) {
        Member sick = memberAt(member);
        if (sick == null || !isPast(w) || !isPast(q)) {
            return NONE;
        }
        rules.lookFrom(q, now);
        return course.grantOf(sick, w, q);
    }

    public int day(int member, int day, int q) {
        Member sick = memberAt(member);
        if (sick == null || day < 0 || day > lastDayOf(now) || !isPast(q)) {
            return NONE;
        }
        rules.lookFrom(q, now);
        return course.natureOf(sick, day, q);
    }

    public int arrears(int member, int w, int q) {
        Member payer = memberAt(member);
        if (payer == null || !isPast(w) || !isPast(q)) {
            return NO_COINS;
        }
        rules.lookFrom(q, now);
        return payer.arrearsIn(w, q, rules);
    }

    public boolean out(int member, int w, int q) {
        Member payer = memberAt(member);
        if (payer == null || !isPast(w) || !isPast(q)) {
            return false;
        }
        rules.lookFrom(q, now);
        return payer.isOutIn(w, q, rules);
    }

    public int what(int member, int w, int kind, int from, int value) {
        Member sick = memberAt(member);
        if (sick == null || !isPast(w) || !Rules.mayBe(kind, from, value)) {
            return NONE;
        }
        rules.suppose(kind, from, value, now);
        int coins = course.grantOf(sick, w, now);
        rules.forgetSupposed();
        return coins;
    }

    public int booked(int member, int w) {
        Member sick = memberAt(member);
        if (sick == null || !isPast(w)) {
            return 0;
        }
        return sick.bookedFor[w];
    }

    public int entry(int i, int what) {
        return ledger.tell(i, what);
    }

    public long worth(int member, int years, int what) {
        Member valued = memberAt(member);
        if (valued == null || years < 1 || years > MOST_YEARS || what < 0 || what > 1) {
            return NO_COINS;
        }
        int age = valued.age + (now - valued.joined) / WEEKS_A_YEAR;
        long living = tables.livingAt(age);
        if (living < 1) {
            return NO_COINS;
        }
        int whole = rules.inForce(WHOLE, now, now);
        int due = rules.inForce(DUE, now, now);
        long sum = tables.sumOver(age, years, whole, WEEKS_A_YEAR * due);
        long divisor = greatestDivisor(Math.abs(sum), living);
        return what == 0 ? sum / divisor : living / divisor;
    }

    public int lodge(int lodge, int what) {
        if (lodge < 0 || lodge >= LODGES || what < 0 || what > 2) {
            return NONE;
        }
        int sum = 0;
        for (int m = 0; m < memberCount; m++) {
            if (members[m].lodge == lodge) {
                sum += shareOf(members[m], what);
            }
        }
        return sum;
    }

    public int member(int member, int what) {
        Member of = memberAt(member);
        if (of == null) {
            return NONE;
        }
        switch (what) {
            case 0:
                return of.age;
            case 1:
                return of.lodge;
            case 2:
                return of.joined;
            case 3:
                return of.paidUpTo[now];
            default:
                return NONE;
        }
    }

    public int told(int paper, int what) {
        Paper of = paperAt(paper);
        if (of == null) {
            return NONE;
        }
        switch (what) {
            case 0:
                return of.memberNumber;
            case 1:
                return of.first;
            case 2:
                return of.last;
            case 3:
                return of.toldIn;
            case 4:
                return of.takenBackIn;
            default:
                return NONE;
        }
    }

    public int count(int what) {
        switch (what) {
            case 0:
                return now;
            case 1:
                return memberCount;
            case 2:
                return rules.size;
            case 3:
                return paperCount;
            case 4:
                return ledger.size;
            case 5:
                return coinsPaid() - coinsBooked();
            case 6:
                return membersOut();
            case 7:
                return coinsPaid();
            default:
                return NO_COINS;
        }
    }

    private Member memberAt(int number) {
        return number >= 0 && number < memberCount ? members[number] : null;
    }

    private Paper paperAt(int number) {
        return number >= 0 && number < paperCount ? papers[number] : null;
    }

    private boolean isPast(int w) {
        return w >= 0 && w <= now;
    }

    private static int lastDayOf(int w) {
        return DAYS_A_WEEK * w + DAYS_A_WEEK - 1;
    }

    private int shareOf(Member of, int what) {
        switch (what) {
            case 0:
                return 1;
            case 1:
                return of.paidUpTo[now];
            default:
                return of.bookedInAll;
        }
    }

    private int coinsPaid() {
        int sum = 0;
        for (int m = 0; m < memberCount; m++) {
            sum += members[m].paidUpTo[now];
        }
        return sum;
    }

    private int coinsBooked() {
        int sum = 0;
        for (int m = 0; m < memberCount; m++) {
            sum += members[m].bookedInAll;
        }
        return sum;
    }

    private int membersOut() {
        rules.lookFrom(now, now);
        int sum = 0;
        for (int m = 0; m < memberCount; m++) {
            if (members[m].isOutIn(now, now, rules)) {
                sum++;
            }
        }
        return sum;
    }

    /** How many GRANTS are other than what is booked: told before any is booked, as the WEEK may be refused. */
    private int workAnew() {
        rules.lookFrom(now, now);
        int differences = 0;
        for (int m = 0; m < memberCount; m++) {
            Member sick = members[m];
            if (sick.stale) {
                course.goOver(sick, now, lastDayOf(now), sick.worked);
                differences += sick.differencesUpTo(now);
            }
        }
        return differences;
    }

    private void bookDifferences(int differences) {
        ledger.makeRoom(differences);
        for (int w = 0; w <= now; w++) {
            for (int m = 0; m < memberCount; m++) {
                Member sick = members[m];
                if (sick.stale && sick.differenceIn(w) != 0) {
                    ledger.add(now, w, m, sick.differenceIn(w));
                    sick.bookDifferenceIn(w);
                }
            }
        }
    }

    private static long greatestDivisor(long one, long other) {
        long a = one;
        long b = other;
        for (int step = 0; b != 0 && step < 200; step++) {
            long rest = a % b;
            a = b;
            b = rest;
        }
        return Math.max(1, a);
    }

    private static final class Member {
        final int age;
        final int lodge;
        final int joined;
        /** Known for WEEKS up to NOW alone; each WEEK that ends hands its sum on. */
        final int[] paidUpTo = new int[WEEKS];
        final int[] bookedFor = new int[WEEKS];
        /** The GRANTS as last worked at a WEEK's end, kept apart until it is sure that they are booked. */
        final int[] worked = new int[WEEKS];
        int bookedInAll;
        /**
         * Whether a RULE or a PAPER has come or gone since the last WEEK's end. If none has, no GRANT is other than
         * booked: a payment counts only from its own WEEK on, and a WEEK without a new PAPER has no SICK DAY.
         */
        boolean stale;
        Paper firstPaper;

        Member(int age, int lodge, int joined) {
            this.age = age;
            this.lodge = lodge;
            this.joined = joined;
        }

        /** Keeps the chain in the order of first DAYS, so that SICK DAYS can be gone over without sorting. */
        void take(Paper added) {
            Paper ahead = null;
            Paper behind = firstPaper;
            while (behind != null && behind.first <= added.first) {
                ahead = behind;
                behind = behind.next;
            }
            added.next = behind;
            if (ahead == null) {
                firstPaper = added;
            } else {
                ahead.next = added;
            }
        }

        int arrearsIn(int w, int q, Rules rules) {
            int dues = w > joined ? rules.duesAhead[w] - rules.duesAhead[joined] : 0;
            return dues - paidUpTo[Math.min(w, q)];
        }

        boolean isOutIn(int w, int q, Rules rules) {
            return arrearsIn(w, q, rules) > rules.seen[TILL_OUT][w] * rules.seen[DUE][w];
        }

        int differenceIn(int w) {
            return worked[w] - bookedFor[w];
        }

        int differencesUpTo(int lastWeek) {
            int differences = 0;
            for (int w = 0; w <= lastWeek; w++) {
                if (differenceIn(w) != 0) {
                    differences++;
                }
            }
            return differences;
        }

        void bookDifferenceIn(int w) {
            bookedInAll += differenceIn(w);
            bookedFor[w] = worked[w];
        }

        void endWeek(int w) {
            stale = false;
            if (w >= 0 && w < LAST_WEEK) {
                paidUpTo[w + 1] = paidUpTo[w];
            }
        }
    }

    private static final class Paper {
        final int memberNumber;
        final int first;
        final int last;
        final int toldIn;
        int takenBackIn = NONE;
        Paper next;

        Paper(int memberNumber, int first, int last, int toldIn) {
            this.memberNumber = memberNumber;
            this.first = first;
            this.last = last;
            this.toldIn = toldIn;
        }

        boolean isKnownIn(int q) {
            return toldIn <= q && (takenBackIn == NONE || takenBackIn > q);
        }
    }

    private static final class Rules {
        private static final int KINDS = 7;
        private static final int MOST = 200;
        private static final int LAST_FROM = 1000;
        private static final int NOTHING = -1;
        private static final int[] LEAST_VALUE = {0, 0, 0, 1, 0, 0, 0};
        private static final int[] MOST_VALUE = {100, 14, 100, 400, 400, 400, 50};
        private static final int[] AT_FIRST = {4, 3, 12, 30, 60, 28, 8};

        /** One place more than RULES can be told, for a RULE that is only supposed. */
        private final int[] kindOf = new int[MOST + 1];
        private final int[] fromOf = new int[MOST + 1];
        private final int[] valueOf = new int[MOST + 1];
        private final int[] toldIn = new int[MOST + 1];
        int size;

        /** By kind and WEEK what is IN FORCE, and by WEEK the DUES of all WEEKS ahead of it, as lookFrom() last saw. */
        final int[][] seen = new int[KINDS][WEEKS];
        final int[] duesAhead = new int[WEEKS];
        private int seenRules = NOTHING;
        private int seenWeek = NOTHING;

        static boolean isKind(int kind) {
            return kind >= 0 && kind < KINDS;
        }

        static boolean isWeek(int w) {
            return w >= 0 && w <= LAST_FROM;
        }

        static boolean mayBe(int kind, int from, int value) {
            return isKind(kind) && isWeek(from) && value >= LEAST_VALUE[kind] && value <= MOST_VALUE[kind];
        }

        boolean isFull() {
            return size >= MOST;
        }

        void add(int kind, int from, int value, int week) {
            write(kind, from, value, week);
            size++;
        }

        int inForce(int kind, int w, int q) {
            int known = knownIn(q);
            int value = AT_FIRST[kind];
            int greatest = 0;
            for (int i = 0; i < known; i++) {
                if (kindOf[i] == kind && fromOf[i] <= w && fromOf[i] >= greatest) {
                    greatest = fromOf[i];
                    value = valueOf[i];
                }
            }
            return value;
        }

        /** Makes the rows as known in q, for all WEEKS up to lastWeek. */
        void lookFrom(int q, int lastWeek) {
            look(knownIn(q), lastWeek);
        }

        void suppose(int kind, int from, int value, int week) {
            write(kind, from, value, week);
            look(size + 1, week);
        }

        /** The next RULE that is told will make as many as were supposed: the rows must not pass for those. */
        void forgetSupposed() {
            seenRules = NOTHING;
        }

        private void write(int kind, int from, int value, int week) {
            kindOf[size] = kind;
            fromOf[size] = from;
            valueOf[size] = value;
            toldIn[size] = week;
        }

        /** RULES stand in the order in which they were told, so those that are known come ahead of all others. */
        private int knownIn(int q) {
            int known = size;
            while (known > 0 && toldIn[known - 1] > q) {
                known--;
            }
            return known;
        }

        private void look(int known, int lastWeek) {
            if (known == seenRules && lastWeek <= seenWeek) {
                return;
            }
            for (int kind = 0; kind < KINDS; kind++) {
                for (int w = 0; w <= lastWeek; w++) {
                    seen[kind][w] = NOTHING;
                }
            }
            for (int i = 0; i < known; i++) {
                if (fromOf[i] <= lastWeek) {
                    seen[kindOf[i]][fromOf[i]] = valueOf[i];
                }
            }
            for (int kind = 0; kind < KINDS; kind++) {
                handOn(seen[kind], AT_FIRST[kind], lastWeek);
            }
            for (int w = 0; w < lastWeek; w++) {
                duesAhead[w + 1] = duesAhead[w] + seen[DUE][w];
            }
            seenRules = known;
            seenWeek = lastWeek;
        }

        private static void handOn(int[] values, int atFirst, int lastWeek) {
            int value = atFirst;
            for (int w = 0; w <= lastWeek; w++) {
                if (values[w] == NOTHING) {
                    values[w] = value;
                } else {
                    value = values[w];
                }
            }
        }
    }

    /** Goes over the SICK DAYS of a MEMBER in order; the RULES must have been looked at from the same q. */
    private static final class Course {
        private final Rules rules;
        private final int[] granted = new int[WEEKS];
        private Member sick;
        private int knownWeek;
        private int latest;
        private int nature;
        private int nth;
        private int lastWaiting;
        private int lastWhole;
        private int lastHalf;
        private int outWeek;
        private boolean isOut;

        Course(Rules rules) {
            this.rules = rules;
        }

        int grantOf(Member of, int w, int q) {
            goOver(of, q, lastDayOf(w), granted);
            return granted[w];
        }

        int natureOf(Member of, int day, int q) {
            goOver(of, q, day, granted);
            return latest == day ? nature : NOT_SICK;
        }

        void goOver(Member of, int q, int lastDay, int[] grants) {
            begin(of, q);
            int lastWeek = Math.min(lastDay / DAYS_A_WEEK, LAST_WEEK);
            for (int w = 0; w <= lastWeek; w++) {
                grants[w] = 0;
            }
            for (Paper paper = of.firstPaper; paper != null; paper = paper.next) {
                if (paper.isKnownIn(q)) {
                    int end = Math.min(paper.last, lastDay);
                    for (int day = Math.max(paper.first, latest + 1); day <= end; day++) {
                        goTo(day);
                        grants[day / DAYS_A_WEEK] += coins(day / DAYS_A_WEEK);
                    }
                }
            }
        }

        private void begin(Member of, int q) {
            sick = of;
            knownWeek = q;
            latest = NONE;
            nature = NOT_SICK;
            nth = 0;
            outWeek = NONE;
        }

        private void goTo(int day) {
            int w = day / DAYS_A_WEEK;
            if (latest == NONE || day - latest - 1 > rules.seen[JOINING][w]) {
                beginIllness(w);
            }
            latest = day;
            nth++;
            if (w != outWeek) {
                outWeek = w;
                isOut = sick.isOutIn(w, knownWeek, rules);
            }
            nature = isOut ? OUT_DAY : natureOfNth();
        }

        private void beginIllness(int w) {
            nth = 0;
            lastWaiting = rules.seen[WAITING][w];
            lastWhole = lastWaiting + rules.seen[WHOLE_DAYS][w];
            lastHalf = lastWhole + rules.seen[HALF_DAYS][w];
        }

        private int natureOfNth() {
            if (nth <= lastWaiting) {
                return WAITING_DAY;
            }
            if (nth <= lastWhole) {
                return WHOLE_DAY;
            }
            return nth <= lastHalf ? HALF_DAY : QUARTER_DAY;
        }

        private int coins(int w) {
            int whole = rules.seen[WHOLE][w];
            switch (nature) {
                case WHOLE_DAY:
                    return whole;
                case HALF_DAY:
                    return whole / 2;
                case QUARTER_DAY:
                    return whole / 4;
                default:
                    return 0;
            }
        }
    }

    /** All BOOKINGS in one row, four places each, which grows as they come: most objects book few. */
    private static final class Ledger {
        private static final int PLACES = 4;
        private static final int FIRST_ROOM = 16;

        private int[] row = new int[PLACES * FIRST_ROOM];
        int size;

        void makeRoom(int more) {
            int needed = PLACES * (size + more);
            if (needed > row.length) {
                row = Arrays.copyOf(row, Math.max(needed, Math.min(2 * row.length, PLACES * MOST_BOOKINGS)));
            }
        }

        void add(int week, int forWeek, int memberNumber, int coins) {
            int place = PLACES * size;
            if (place + PLACES > row.length) {
                return;
            }
            row[place] = week;
            row[place + 1] = forWeek;
            row[place + 2] = memberNumber;
            row[place + 3] = coins;
            size++;
        }

        int tell(int i, int place) {
            if (i < 0 || i >= size || place < 0 || place >= PLACES) {
                return NO_COINS;
            }
            return row[PLACES * i + place];
        }
    }

    private static final class Tables {
        private static final int AGES = 100;
        private static final int MOST_LIVING = 1000;
        private static final int MOST_SICK = 365;

        private final int[] living = new int[AGES];
        private final int[] sickDays = new int[AGES];

        Tables() {
            for (int age = 0; age < AGES; age++) {
                living[age] = MOST_LIVING - 10 * age;
                sickDays[age] = age / 4;
            }
        }

        boolean change(int age, int alive, int sick) {
            if (age < 0 || age >= AGES || alive < 0 || alive > MOST_LIVING || sick < 0 || sick > MOST_SICK) {
                return false;
            }
            living[age] = alive;
            sickDays[age] = sick;
            return true;
        }

        int livingAt(int age) {
            return age >= 0 && age < AGES ? living[age] : 0;
        }

        long sumOver(int fromAge, int years, int whole, int duesAYear) {
            long sum = 0;
            int end = Math.min(fromAge + years, AGES);
            for (int age = Math.max(fromAge, 0); age < end; age++) {
                sum += (long) living[age] * (sickDays[age] * whole - duesAYear);
            }
            return sum;
        }
    }
}
