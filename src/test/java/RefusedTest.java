import java.util.ArrayList;
import java.util.List;
import java.util.function.Consumer;
import java.util.function.Supplier;
import java.util.function.ToLongFunction;

/**
 * A call that is refused, and a question, changes nothing that later calls show: two societies are made alike, one has
 * the call besides, and both are asked all there is to ask, then and after what comes next. An object is used for 512
 * calls at most, so they are made anew for each few questions.
 */
public final class RefusedTest {
    private static final int MOST_CALLS = 512;
    private static final int MIN = Integer.MIN_VALUE;
    private static final int MAX = Integer.MAX_VALUE;

    private static final Checks CHECKS = new Checks();

    private record Refused(String name, ToLongFunction<BreadBox> call, long refusal) { }

    public static void main(String[] args) {
        ofNewObject();
        ofOrdinarySociety();
        ofFullSociety();
        ofLastWeek();
        ofFullLedger();
        questionsOfOrdinarySociety();
        CHECKS.end("RefusedTest");
    }

    private static void changesNothing(String society, Supplier<BreadBox> maker, int callsMade, Consumer<BreadBox> next,
            int callsNext, List<Refused> all) {
        List<Long> plain = answers(maker, box -> { }, callsMade + callsNext + 1, next);
        for (Refused refused : all) {
            CHECKS.due(society + ": " + refused.name, refused.call.applyAsLong(maker.get()), refused.refusal);
            Consumer<BreadBox> call = refused.call::applyAsLong;
            List<Long> got = answers(maker, call, callsMade + callsNext + 1, next);
            CHECKS.due(society + ": place of the first answer changed by " + refused.name, firstOther(got, plain), -1);
        }
    }

    private static int firstOther(List<Long> one, List<Long> other) {
        for (int i = 0; i < one.size(); i++) {
            if (!one.get(i).equals(other.get(i))) {
                return i;
            }
        }
        return -1;
    }

    /** The answers to all questions, asked at once, and asked after what comes next. */
    private static List<Long> answers(Supplier<BreadBox> maker, Consumer<BreadBox> besides, int callsMade,
            Consumer<BreadBox> next) {
        BreadBox first = maker.get();
        List<ToLongFunction<BreadBox>> now = questions(first);
        next.accept(first);
        List<ToLongFunction<BreadBox>> then = questions(first);
        List<Long> answers = new ArrayList<>();
        ask(maker, besides, box -> { }, now, MOST_CALLS - callsMade, answers);
        ask(maker, besides, next, then, MOST_CALLS - callsMade, answers);
        return answers;
    }

    private static void ask(Supplier<BreadBox> maker, Consumer<BreadBox> besides, Consumer<BreadBox> next,
            List<ToLongFunction<BreadBox>> questions, int atOnce, List<Long> answers) {
        BreadBox box = null;
        for (int i = 0; i < questions.size(); i++) {
            if (i % atOnce == 0) {
                box = maker.get();
                besides.accept(box);
                next.accept(box);
            }
            answers.add(questions.get(i).applyAsLong(box));
        }
    }

    /** What a box like this one can be asked; a place beyond the last of each, too, so that one more would be seen. */
    private static List<ToLongFunction<BreadBox>> questions(BreadBox like) {
        List<ToLongFunction<BreadBox>> all = new ArrayList<>();
        int now = like.count(0);
        int members = like.count(1);
        int papers = like.count(3);
        int bookings = like.count(4);
        for (int what = 0; what < 8; what++) {
            int w = what;
            all.add(box -> box.count(w));
        }
        for (int i = 0; i < 12; i++) {
            int lodge = i / 3;
            int what = i % 3;
            all.add(box -> box.lodge(lodge, what));
        }
        for (int m = 0; m <= members; m += Math.max(1, members / 5)) {
            ofMember(all, m, now);
        }
        for (int p = 0; p <= papers; p += Math.max(1, papers / 10)) {
            for (int what = 0; what < 5; what++) {
                int paper = p;
                int w = what;
                all.add(box -> box.told(paper, w));
            }
        }
        for (int i = 0; i <= bookings; i += Math.max(1, bookings / 10)) {
            for (int what = 0; what < 4; what++) {
                int entry = i;
                int w = what;
                all.add(box -> box.entry(entry, w));
            }
        }
        ofRules(all, now);
        return all;
    }

    private static void ofMember(List<ToLongFunction<BreadBox>> all, int m, int now) {
        for (int what = 0; what < 4; what++) {
            int w = what;
            all.add(box -> box.member(m, w));
        }
        all.add(box -> box.worth(m, 50, 0));
        all.add(box -> box.worth(m, 50, 1));
        for (int w = Math.max(0, now - 9); w <= now; w++) {
            int week = w;
            all.add(box -> box.booked(m, week));
            all.add(box -> box.grant(m, week, now));
            all.add(box -> box.arrears(m, week, now));
            all.add(box -> box.arrears(m, now, week));
            all.add(box -> box.out(m, week, now) ? 1 : 0);
            all.add(box -> box.what(m, week, Boxes.WHOLE, 0, 77));
            all.add(box -> box.day(m, 7 * week + 6, now));
        }
    }

    private static void ofRules(List<ToLongFunction<BreadBox>> all, int now) {
        for (int kind = 0; kind < 7; kind++) {
            for (int w : new int[] {0, 1, now, 1000}) {
                int k = kind;
                all.add(box -> box.force(k, w, now));
                all.add(box -> box.force(k, w, Math.max(0, now - 1)));
            }
        }
    }

    private static void add(List<Refused> all, String name, long refusal, ToLongFunction<BreadBox> call) {
        all.add(new Refused(name, call, refusal));
    }

    /** What every society refuses. */
    private static List<Refused> alwaysRefused() {
        List<Refused> all = new ArrayList<>();
        for (int member : new int[] {-1, 40, MIN, MAX}) {
            add(all, "pay, MEMBER " + member, -1_000_000, box -> box.pay(member, 5));
            add(all, "paper, MEMBER " + member, -1, box -> box.paper(member, 0, 0));
        }
        for (int coins : new int[] {0, -1, 1001, MIN, MAX}) {
            add(all, "pay " + coins, -1_000_000, box -> box.pay(0, coins));
        }
        for (int age : new int[] {15, 61, MIN, MAX}) {
            add(all, "join, AGE " + age, -1, box -> box.join(age, 0));
        }
        for (int lodge : new int[] {-1, 4, MIN, MAX}) {
            add(all, "join, LODGE " + lodge, -1, box -> box.join(30, lodge));
        }
        for (int from : new int[] {-1, 1001, MIN, MAX}) {
            add(all, "rule, from " + from, -1, box -> box.rule(2, from, 1));
        }
        for (int kind : new int[] {-1, 7, MIN, MAX}) {
            add(all, "rule, kind " + kind, -1, box -> box.rule(kind, 0, 1));
        }
        for (int kind = 0; kind < 7; kind++) {
            int k = kind;
            add(all, "rule too high, kind " + kind, -1, box -> box.rule(k, 0, Boxes.MOST_VALUE[k] + 1));
            add(all, "rule too low, kind " + kind, -1, box -> box.rule(k, 0, Boxes.LEAST_VALUE[k] - 1));
        }
        for (int paper : new int[] {-1, 200, MIN, MAX}) {
            add(all, "back " + paper, 0, box -> box.back(paper) ? 1 : 0);
        }
        for (int[] row : new int[][] {{-1, 5, 5}, {100, 5, 5}, {30, -1, 5}, {30, 1001, 5}, {30, 5, -1}, {30, 5, 366}}) {
            add(all, "table " + row[0], 0, box -> box.table(row[0], row[1], row[2]) ? 1 : 0);
        }
        int[][] wrongDays = {{4, 3}, {-1, 3}, {0, 2107}, {2107, 2107}, {MIN, MAX}, {MAX, MIN}, {0, MAX}, {MIN, 0}};
        for (int[] days : wrongDays) {
            add(all, "paper of DAYS " + days[0], -1, box -> box.paper(0, days[0], days[1]));
        }
        return all;
    }

    private static void ofNewObject() {
        List<Refused> all = alwaysRefused();
        add(all, "pay", -1_000_000, box -> box.pay(0, 1));
        add(all, "paper", -1, box -> box.paper(0, 0, 0));
        add(all, "back", 0, box -> box.back(0) ? 1 : 0);
        add(all, "what", -1, box -> box.what(0, 0, 2, 0, 50));
        changesNothing("a new object", BreadBox::new, 0, box -> {
            box.join(30, 0);
            box.paper(0, 0, 6);
            box.pay(0, 3);
            box.week();
        }, 4, all);
    }

    private static BreadBox ordinarySociety() {
        BreadBox box = new BreadBox();
        box.join(30, 0);
        box.join(41, 1);
        box.pay(0, 20);
        Boxes.weeks(box, 3);
        box.join(52, 3);
        box.rule(Boxes.WHOLE, 2, 15);
        box.rule(Boxes.TILL_OUT, 5, 3);
        box.paper(0, 3, 19);
        box.paper(1, 21, 27);
        Boxes.weeks(box, 3);
        box.back(1);
        box.paper(2, 30, 40);
        box.pay(2, 9);
        box.table(42, 900, 30);
        return box;
    }

    private static void afterOrdinarySociety(BreadBox box) {
        box.week();
        box.rule(Boxes.WAITING, 0, 1);
        box.join(20, 2);
        box.paper(3, 49, 55);
        box.pay(1, 40);
        box.paper(1, 40, 50);
        box.week();
    }

    private static void ofOrdinarySociety() {
        List<Refused> all = alwaysRefused();
        add(all, "pay, nobody", -1_000_000, box -> box.pay(3, 5));
        add(all, "paper, nobody", -1, box -> box.paper(3, 30, 40));
        add(all, "paper ahead of JOINED", -1, box -> box.paper(2, 20, 30));
        add(all, "paper behind this WEEK", -1, box -> box.paper(0, 42, 49));
        add(all, "back, none", 0, box -> box.back(3) ? 1 : 0);
        add(all, "back, it was", 0, box -> box.back(1) ? 1 : 0);
        changesNothing("a society", RefusedTest::ordinarySociety, 19, RefusedTest::afterOrdinarySociety, 7, all);
    }

    /** 40 MEMBERS, 200 RULES and 200 PAPERS, in WEEK 1. */
    private static BreadBox fullSociety() {
        BreadBox box = new BreadBox();
        for (int m = 0; m < 40; m++) {
            box.join(16 + m, m % 4);
        }
        for (int i = 0; i < 100; i++) {
            box.paper(i % 40, i % 7, i % 7);
            box.rule(i % 7, i % 3, 1 + i % 14);
        }
        box.week();
        for (int i = 100; i < 200; i++) {
            box.paper(i % 40, 7 + i % 7, 7 + i % 7);
            box.rule(i % 7, i % 3, 1 + i % 14);
        }
        return box;
    }

    private static void ofFullSociety() {
        List<Refused> all = new ArrayList<>();
        add(all, "join", -1, box -> box.join(30, 0));
        for (int kind = 0; kind < 7; kind++) {
            int k = kind;
            add(all, "rule " + kind, -1, box -> box.rule(k, 0, 14));
        }
        add(all, "paper", -1, box -> box.paper(0, 0, 13));
        add(all, "paper", -1, box -> box.paper(39, 0, 13));
        add(all, "paper, nobody", -1, box -> box.paper(40, 0, 13));
        add(all, "pay, nobody", -1_000_000, box -> box.pay(40, 13));
        add(all, "back, none", 0, box -> box.back(200) ? 1 : 0);
        changesNothing("a full society", RefusedTest::fullSociety, 441, box -> {
            box.back(7);
            box.week();
        }, 2, all);
    }

    private static BreadBox lastWeek() {
        BreadBox box = new BreadBox();
        box.join(30, 0);
        box.join(30, 1);
        Boxes.weeks(box, 299);
        box.pay(0, 1000);
        box.pay(0, 500);
        box.paper(0, 2090, 2099);
        box.week();
        box.paper(0, 2100, 2106);
        box.rule(Boxes.WHOLE, 299, 20);
        return box;
    }

    private static void ofLastWeek() {
        List<Refused> all = new ArrayList<>();
        add(all, "week", -1, BreadBox::week);
        add(all, "paper behind it", -1, box -> box.paper(0, 2107, 2107));
        add(all, "pay", -1_000_000, box -> box.pay(0, 0));
        changesNothing("WEEK 300", RefusedTest::lastWeek, 307, box -> {
            box.pay(0, 1);
            box.week();
        }, 2, all);
    }

    /** 20,000 BOOKINGS, and 40 more that would be made. */
    private static BreadBox ledgerTooFull() {
        BreadBox box = Boxes.fullLedger();
        box.pay(1, 6);
        box.rule(Boxes.WHOLE, 57, 96);
        return box;
    }

    private static void ofFullLedger() {
        List<Refused> all = new ArrayList<>();
        add(all, "week", -1, BreadBox::week);
        changesNothing("20,000", RefusedTest::ledgerTooFull, 160, box -> box.pay(2, 3), 1, all);
        changesNothing("20,000, mended", RefusedTest::ledgerTooFull, 160, box -> {
            box.rule(Boxes.WHOLE, 57, 100);
            box.week();
        }, 2, all);
    }

    /** Questions are no refused calls, but change as little; each is listed with its answer. */
    private static void questionsOfOrdinarySociety() {
        List<Refused> all = new ArrayList<>();
        BreadBox like = ordinarySociety();
        List<ToLongFunction<BreadBox>> questions = questions(like);
        for (int i = 0; i < questions.size(); i++) {
            add(all, "question " + i, questions.get(i).applyAsLong(ordinarySociety()), questions.get(i));
        }
        for (int kind = 0; kind < 7; kind++) {
            for (int from : new int[] {0, 3, 6, 1000}) {
                int k = kind;
                ToLongFunction<BreadBox> what = box -> box.what(0, 2, k, from, 1);
                add(all, "what, kind " + kind, what.applyAsLong(ordinarySociety()), what);
            }
        }
        changesNothing("a society", RefusedTest::ordinarySociety, 19, RefusedTest::afterOrdinarySociety, 7, all);
    }
}
