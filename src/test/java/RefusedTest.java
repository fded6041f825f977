import java.util.ArrayList;
import java.util.HashMap;
import java.util.List;
import java.util.Map;
import java.util.NoSuchElementException;

/**
 * A refused call changes nothing (but the TAPE, where it is told): behind each of them a town
 * answers all that can be asked, at once and after more has gone by in it, as without that call.
 */
public final class RefusedTest {
    private static final long THREW = Edge.THREW;
    private static final int ASKED_AT_ONCE = 50;

    /** A call by its name and numbers. */
    private record Call(String name, int... numbers) {
        long on(FirmTown x) {
            try {
                return Calls.make(x, name, numbers);
            } catch (NoSuchElementException e) {
                return THREW;
            }
        }

        String text() {
            StringBuilder text = new StringBuilder(name).append('(');
            for (int i = 0; i < numbers.length; i++) {
                text.append(i > 0 ? ", " : "").append(numbers[i]);
            }
            return text.append(')').toString();
        }
    }

    private interface Town {
        FirmTown build();
    }

    private final Town town;
    /** What the town answers without the refused call: by the call that is made in its place. */
    private final Map<String, List<Long>> without = new HashMap<>();
    private final List<Call> looks;

    private RefusedTest(Town town) {
        this.town = town;
        this.looks = looks(town.build());
    }

    public static void main(String[] args) {
        RefusedTest lively = new RefusedTest(RefusedTest::lively);
        persons(lively);
        texts(lively);
        rules(lively);
        weeks(lively);
        store(lively);
        homes(lively);
        seen(lively);
        strikes(lively);
        sales(lively);
        asked(lively);
        whatIsAsked(lively);
        faults();
        fullTowns();
        lastDay();
        tooLate();
        emptyTown();
        Check.close("RefusedTest");
    }

    // ---- towns ----

    /** Five PERSONS, five HOUSES, a bit of all that a town has, on DAY 10. */
    private static FirmTown lively() {
        FirmTown x = new FirmTown();
        int[][] persons = {{2, 30}, {3, 40}, {1, 20}, {12, 60}, {2, 50}};
        for (int[] p : persons) {
            x.person(p[0], p[1]);
        }
        int[][] houses = {{2, 1}, {3, 2}, {1, 0}, {1, 3}, {1, 0}};
        for (int[] h : houses) {
            x.house(h[0], h[1]);
        }
        Check.tell(x, 0, "rent 20+size;most 50;leave 10;rank age;credit 400;fine late 6;fine drunk 7 if age>35;");
        int[] pays = {10, 20, 5, 8, 9};
        int[] asking = {0, 1, 3, 2};
        for (int i = 0; i < pays.length; i++) {
            x.post(i, pays[i]);
        }
        for (int i = 0; i < asking.length; i++) {
            x.asks(asking[i]);
            x.give(i < 3 ? i : 2);
        }
        x.club(0, 9);
        x.club(1, 15);
        x.holds(70);
        x.good(0, 10, 7, 60);
        x.good(1, 3, 5, 20);
        x.hours(0, 0, 40);
        x.hours(1, 0, 30);
        x.hours(2, 0, 20);
        x.hours(0, 1, 35);
        x.days(8);
        x.buys(0, 0, 3);
        x.buys(2, 0, 9);
        x.seen(0, 0);
        x.seen(1, 1);
        x.seen(0, 1);
        x.fines(0);
        x.flaw(0, 3);
        x.flaw(1, 4);
        x.days(2);
        x.mends(0);
        x.bid(0, 3, 50);
        x.bid(1, 3, 60);
        x.bid(2, 2, 10);
        x.bid(4, 0, 7);
        x.sold(3, 1);
        x.ends(1);
        x.ends(4);
        Check.tell(x, 0, "keep");
        Check.feed(x, "keep;  ");
        return x;
    }

    /** A town with a PERSON, a HOUSE and a NAME, and a call made so many times. */
    private static FirmTown full(int times, Call call) {
        FirmTown x = Towns.of(1, 1);
        x.post(0, 5);
        Check.tell(x, 0, "fine a 5;rent 3;");
        Towns.repeat(times, () -> call.on(x));
        return x;
    }

    // ---- what can be asked ----

    private static List<Call> looks(FirmTown x) {
        List<Call> all = new ArrayList<>();
        for (int what = 0; what <= 12; what++) {
            all.add(new Call("count", what));
        }
        for (int p : someOf(x.count(0))) {
            addPerson(all, p, x);
        }
        for (int h : someOf(x.count(1))) {
            for (int what = 0; what <= 3; what++) {
                all.add(new Call("houseOf", h, what));
            }
            all.add(new Call("waits", h, 0));
            all.add(new Call("sells", 1 << h));
            all.add(new Call("buyer", 1 << h, h));
        }
        for (int seen : someOf(x.count(6))) {
            all.add(new Call("unlike", seen));
        }
        all.add(new Call("run", 0));
        all.add(new Call("run", 1));
        all.add(new Call("waits", 0, 1));
        all.add(new Call("lasting", 2, 500));
        all.add(new Call("place"));
        return all;
    }

    /** The first five of n, and the last. */
    private static List<Integer> someOf(int n) {
        List<Integer> some = new ArrayList<>();
        for (int i = 0; i < n; i++) {
            if (i < 5 || i == n - 1) {
                some.add(i);
            }
        }
        return some;
    }

    private static void addPerson(List<Call> all, int p, FirmTown x) {
        int today = x.count(2);
        for (int what = 0; what <= 13; what++) {
            all.add(new Call("of", p, what));
        }
        for (int kind = 0; kind <= 5; kind++) {
            all.add(new Call("value", kind, p, today, today));
            all.add(new Call("why", kind, p, today, today));
            all.add(new Call("quarrel", kind, p, today, today));
        }
        for (int name = 0; name < Math.min(x.count(4), 2); name++) {
            all.add(new Call("fineOf", name, p, today, today));
        }
        for (int week : someOf(Math.min(x.count(12) + 1, 2))) {
            for (int what = 0; what <= 6; what++) {
                all.add(new Call("row", week, p, what));
            }
        }
        for (int text : someOf(x.count(3))) {
            all.add(new Call("other", text, p));
        }
        all.add(new Call("passed", p));
        all.add(new Call("lasts", p, 500));
    }

    /** What goes by in a town between the refused call and the asking. */
    private static List<List<Call>> laters() {
        List<Call> days = new ArrayList<>();
        days.add(new Call("days", 12));
        days.add(new Call("days", 10));
        List<Call> acts = new ArrayList<>();
        for (int good = 0; good <= 5; good++) {
            acts.add(new Call("buys", 0, good, 20));
        }
        acts.add(new Call("text", 0));
        acts.add(new Call("give", 4));
        for (int i = 0; i < 5; i++) {
            acts.add(new Call("draws", i));
            acts.add(new Call("undone", i));
            acts.add(new Call("ends", i));
            acts.add(new Call("fines", i));
            acts.add(new Call("mends", i));
        }
        acts.add(new Call("days", 10));
        return List.of(List.of(), days, acts);
    }

    private static final List<List<Call>> LATERS = laters();

    /** All answers of a town behind a call. */
    private List<Long> behind(Call call) {
        List<Long> answers = new ArrayList<>();
        for (List<Call> later : LATERS) {
            for (int from = 0; from < looks.size(); from += ASKED_AT_ONCE) {
                FirmTown x = town.build();
                call.on(x);
                for (Call c : later) {
                    answers.add(c.on(x));
                }
                for (Call c : looks.subList(from, Math.min(looks.size(), from + ASKED_AT_ONCE))) {
                    answers.add(c.on(x));
                }
            }
        }
        return answers;
    }

    /** A call is made, answers what is due, and the town is as if another had been made in its place. */
    private void same(Call call, long due, Call other) {
        Check.due(call.text(), call.on(town.build()), due);
        List<Long> alike = without.computeIfAbsent(other.text(), text -> behind(other));
        Check.due(call.text() + " changes nothing", behind(call).equals(alike), true);
    }

    private void refused(long due, String name, int... numbers) {
        same(new Call(name, numbers), due, new Call("count", 0));
    }

    // ---- refused calls, promise by promise ----

    private static void persons(RefusedTest t) {
        t.refused(-1, "person", 0, 30);
        t.refused(-1, "person", 13, 30);
        t.refused(-1, "person", 2, 9);
        t.refused(-1, "person", 2, 91);
        t.refused(-1, "house", 0, 0);
        t.refused(-1, "house", 10, 0);
        t.refused(-1, "house", 1, -1);
        t.refused(-1, "house", 1, 6);
        t.refused(0, "post", -1, 5);
        t.refused(0, "post", 5, 5);
        t.refused(0, "post", 4, 0);
        t.refused(0, "post", 4, 201);
        t.refused(0, "post", 0, 5);
        t.refused(0, "club", -1, 5);
        t.refused(0, "club", 5, 5);
        t.refused(0, "club", 0, -1);
        t.refused(0, "club", 0, 10000);
        t.refused(0, "holds", -1);
        t.refused(0, "holds", 101);
    }

    private static void texts(RefusedTest t) {
        t.refused(-1, "end", -1);
        t.refused(-1, "end", 8);
        t.refused(-1, "text", -1);
        t.refused(-1, "text", 10000);
    }

    private static void rules(RefusedTest t) {
        int[][] wrong = {{-1, 0, 0, 0}, {6, 0, 0, 0}, {0, -1, 0, 0}, {0, 5, 0, 0}, {0, 0, -1, 0},
            {0, 0, 10000, 0}, {0, 0, 0, -1}, {0, 0, 0, 11}};
        for (int[] c : wrong) {
            t.refused(THREW, "value", c);
            t.refused(-1, "why", c);
            t.refused(-1, "quarrel", c);
            t.refused(-1, "fineOf", c[0] == 6 ? 2 : c[0], c[1], c[2], c[3]);
        }
    }

    private static void weeks(RefusedTest t) {
        int[][] hours = {{-1, 2, 5}, {5, 2, 5}, {0, 0, 5}, {0, -1, 5}, {0, 1429, 5}, {0, 2, -1}, {0, 2, 85}};
        for (int[] c : hours) {
            t.refused(0, "hours", c);
        }
        t.refused(-1, "days", -1);
        t.refused(-1, "days", 61);
        int[][] rows = {{-1, 0, 0}, {1, 0, 0}, {0, -1, 0}, {0, 5, 0}, {0, 0, -1}, {0, 0, 7}};
        for (int[] c : rows) {
            t.refused(THREW, "row", c);
        }
    }

    private static void store(RefusedTest t) {
        int[][] goods = {{-1, 1, 1, 1}, {6, 1, 1, 1}, {0, 0, 1, 1}, {0, 1000, 1, 1}, {0, 1, 0, 1},
            {0, 1, 1000, 1}, {0, 1, 1, -1}, {0, 1, 1, 10000}};
        for (int[] c : goods) {
            t.refused(0, "good", c);
        }
        int[][] buys = {{-1, 0, 1}, {5, 0, 1}, {0, -1, 1}, {0, 6, 1}, {0, 0, 0}, {0, 0, 100}};
        for (int[] c : buys) {
            t.refused(-1, "buys", c);
        }
        t.refused(-2, "buys", 0, 1, 21);
        t.refused(-3, "buys", 3, 0, 41);
        t.refused(-1, "draws", -1);
        t.refused(-1, "draws", 5);
        t.refused(-1, "run", -1);
        t.refused(-1, "run", 2);
    }

    private static void homes(RefusedTest t) {
        for (int person : new int[] {-1, 5, 1, 4}) {
            t.refused(-1, "ends", person);
        }
        for (int person : new int[] {-1, 5, 0, 3}) {
            t.refused(-1, "undone", person);
        }
        for (int person : new int[] {-1, 5, 0, 1, 3, 4}) {
            t.refused(-1, "asks", person);
        }
        for (int house : new int[] {-1, 5, 0, 3}) {
            t.refused(-1, "give", house);
        }
        t.refused(-2, "give", 4);
        t.refused(-1, "passed", -1);
        t.refused(-1, "passed", 5);
    }

    private static void seen(RefusedTest t) {
        int[][] seen = {{-1, 0}, {5, 0}, {0, -1}, {0, 2}};
        for (int[] c : seen) {
            t.refused(-1, "seen", c);
        }
        for (int number : new int[] {-1, 3, 0}) {
            t.refused(-1, "fines", number);
        }
        t.refused(0, "fines", 2);
        t.refused(-1, "unlike", -1);
        t.refused(-1, "unlike", 3);
        int[][] flaws = {{-1, 1}, {5, 1}, {0, 0}, {0, 10}};
        for (int[] c : flaws) {
            t.refused(-1, "flaw", c);
        }
        for (int number : new int[] {-1, 2, 0}) {
            t.refused(-1, "mends", number);
        }
        int[][] waits = {{-1, 0}, {5, 0}, {0, -1}, {0, 2}};
        for (int[] c : waits) {
            t.refused(-1, "waits", c);
        }
    }

    private static void strikes(RefusedTest t) {
        int[][] lasts = {{-1, 5}, {5, 5}, {1, 5}, {0, -1}, {0, 1000001}};
        for (int[] c : lasts) {
            t.refused(-1, "lasts", c);
        }
        int[][] lasting = {{-1, 5}, {53, 5}, {0, -1}, {0, 1000001}};
        for (int[] c : lasting) {
            t.refused(-1, "lasting", c);
        }
        int[][] other = {{-1, 0}, {1, 0}, {0, -1}, {0, 5}};
        for (int[] c : other) {
            t.refused(-1, "other", c);
        }
    }

    private static void sales(RefusedTest t) {
        int[][] bids = {{-1, 0, 5}, {5, 0, 5}, {0, -1, 5}, {0, 5, 5}, {0, 3, 5}, {1, 3, 0}, {4, 0, -1}, {4, 0, 100001}};
        for (int[] c : bids) {
            t.refused(0, "bid", c);
        }
        for (int bits : new int[] {0, 32, 8, 9, -1, Integer.MIN_VALUE}) {
            t.refused(-1, "sells", bits);
            t.refused(-1, "buyer", bits, 0);
        }
        t.refused(-1, "buyer", 1, 1);
        t.refused(-1, "buyer", 1, -1);
        t.refused(-1, "buyer", 2, 1);
        int[][] sold = {{-1, 0}, {5, 0}, {0, -1}, {0, 5}, {0, 3}, {3, 0}, {3, 1}};
        for (int[] c : sold) {
            t.refused(0, "sold", c);
        }
    }

    private static void asked(RefusedTest t) {
        int[][] of = {{-1, 0}, {5, 0}, {0, -1}, {0, 14}};
        for (int[] c : of) {
            t.refused(THREW, "of", c);
        }
        int[][] houseOf = {{-1, 0}, {5, 0}, {0, -1}, {0, 4}};
        for (int[] c : houseOf) {
            t.refused(-1, "houseOf", c);
        }
        t.refused(-1, "count", -1);
        t.refused(-1, "count", 13);
    }

    /** What is asked and answered changes nothing either. */
    private static void whatIsAsked(RefusedTest t) {
        for (Call look : looks(lively())) {
            t.same(look, look.on(lively()), new Call("count", 0));
        }
        t.refused(10, "days", 0);
        t.refused(7, "end", 7);
        t.refused(17, "sells", 5);
        t.refused(4, "buyer", 5, 0);
        t.refused(2, "buyer", 4, 2);
    }

    /** A text with a FAULT changes nothing: the TAPE is empty then, and place tells the FAULT. */
    private static void faults() {
        String[] texts = {"strike rent;fine new 3;keep", "rent 5;most 101;", "strike most;rank x;",
            "fine a 1;rent (((((1)))));", "x"};
        for (int i = 0; i < texts.length; i++) {
            String text = texts[i];
            RefusedTest t = new RefusedTest(() -> {
                FirmTown x = lively();
                x.end(0);
                Check.feed(x, text);
                return x;
            });
            t.looks.removeIf(look -> look.name().equals("place"));
            t.same(new Call("text", 0), new int[] {-2, -3, -4, -5, -2}[i], new Call("end", 0));
        }
    }

    private static void fullTowns() {
        new RefusedTest(() -> full(59, new Call("person", 3, 40))).refused(-1, "person", 2, 30);
        new RefusedTest(() -> full(29, new Call("house", 3, 4))).refused(-1, "house", 2, 3);
        new RefusedTest(() -> full(100, new Call("seen", 0, 0))).refused(-1, "seen", 0, 0);
        new RefusedTest(() -> full(60, new Call("flaw", 0, 3))).refused(-1, "flaw", 0, 9);
        new RefusedTest(() -> full(15, new Call("feed", 0, 0, 0, 0, 0))).refused(-1, "feed", 1, 2, 3, 4, 5);
        new RefusedTest(() -> {
            FirmTown x = full(15, new Call("feed", 0, 0, 0, 0, 0));
            x.end(281);
            return x;
        }).refused(-1, "feed", 1, 2, 3, 4, 5);
        new RefusedTest(() -> {
            FirmTown x = full(11, new Call("text", 0));
            Check.feed(x, "strike rent;fine b 2;keep;");
            return x;
        }).refused(-1, "text", 0);
        new RefusedTest(() -> full(400, new Call("hours", 0, 1, 7))).refused(0, "hours", 0, 0, 5);
    }

    private static void lastDay() {
        RefusedTest t = new RefusedTest(() -> {
            FirmTown x = full(3, new Call("hours", 0, 1427, 50));
            Towns.until(x, Towns.LAST_DAY);
            return x;
        });
        t.refused(-1, "days", 1);
        t.refused(-1, "days", 60);
        t.refused(0, "hours", 0, 1427, 5);
        t.refused(0, "hours", 0, 1429, 5);
        t.refused(THREW, "row", 1428, 0, 0);
        t.refused(THREW, "value", 0, 0, 0, 10000);
    }

    private static void tooLate() {
        RefusedTest t = new RefusedTest(() -> {
            FirmTown x = Towns.housed(2);
            x.ends(0);
            x.days(31);
            return x;
        });
        t.refused(-1, "undone", 0);
    }

    private static void emptyTown() {
        RefusedTest t = new RefusedTest(FirmTown::new);
        for (String name : new String[] {"draws", "ends", "undone", "asks", "give", "passed", "fines",
            "unlike", "mends", "sells"}) {
            t.refused(-1, name, 0);
        }
        t.refused(0, "post", 0, 5);
        t.refused(0, "hours", 0, 0, 5);
        t.refused(0, "bid", 0, 0, 5);
        t.refused(0, "sold", 0, 0);
        t.refused(-1, "buys", 0, 0, 1);
        t.refused(-1, "seen", 0, 0);
        t.refused(-1, "flaw", 0, 1);
        t.refused(-1, "end", 1);
        t.refused(THREW, "of", 0, 0);
        t.refused(THREW, "row", 0, 0, 0);
        t.refused(THREW, "value", 0, 0, 0, 0);
    }
}
