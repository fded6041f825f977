/** The edges that promises 27 to 32 and the words about SEEN and FAULTS name. */
public final class EdgeSeenTest {
    public static void main(String[] args) {
        seenOfWhom();
        seenNames();
        atMost100Seen();
        finesOfWhich();
        finedOnce();
        finesAtTheirBounds();
        inForceOnThatDay();
        knownToday();
        weeksOfThatDay();
        noRule();
        unlikeOfWhich();
        unlikeOfNameAndDay();
        hundredUnlike();
        flawsOfHouses();
        atMostSixtyFlaws();
        mendsWhich();
        mendedOnTheLastDay();
        waitsOfWhich();
        waitsByDays();
        waitsMost();
        flawsOfASoldHouse();
        longestWait();
        Check.close("EdgeSeenTest");
    }

    private static FirmTown ruled(int persons, String text) {
        FirmTown x = Towns.of(persons, 1);
        Check.tell(x, 0, text);
        return x;
    }

    /** Promise 27: NONE: no such ones. */
    private static void seenOfWhom() {
        Edge.range("a PERSON", Edge.NONE, 0, 2, n -> ruled(3, "fine a 1;").seen(n, 0));
    }

    /** A NAME that some TEXT's fine has. */
    private static void seenNames() {
        Edge.range("a NAME", Edge.NONE, 0, 2, n -> ruled(1, "fine a 1;fine b 1;fine a 1;fine c 1;").seen(0, n));
        Check.due("no NAME", ruled(1, "").seen(0, 0), -1);
        FirmTown x = Towns.of(1, 0);
        Check.tell(x, 0, "fine a 1;keep");
        Check.due("of a TEXT with a FAULT", x.seen(0, 0), -1);
        Check.tell(x, 9999, "fine a 1;");
        Check.due("of a TEXT that is not in force yet", x.seen(0, 0), 0);
        Check.tell(x, 0, "strike fine;");
        Check.due("of one that is struck", x.seen(0, 0), 1);
    }

    /** SEEN, at most 100. */
    private static void atMost100Seen() {
        FirmTown x = ruled(1, "fine a 1;");
        for (int i = 0; i < 99; i++) {
            x.seen(0, 0);
        }
        Check.due("FINED", x.fines(0), 1);
        Check.due("the hundredth", x.seen(0, 0), 99);
        Check.due("the 101st, though some are FINED", x.seen(0, 0), -1);
        Check.due("SEEN", x.count(6), 100);
        Check.due("the hundredth is FINED", x.fines(99), 1);
        Check.due("the 101st isn't there", x.fines(100), -1);
    }

    /** Promise 28: NONE: no such one, it was. */
    private static void finesOfWhich() {
        Edge.range("a SEEN", Edge.NONE, 0, 2, n -> {
            FirmTown x = ruled(1, "fine a 1;");
            Towns.repeat(3, () -> x.seen(0, 0));
            return x.fines(n);
        });
    }

    /** FINES are so much more; once. */
    private static void finedOnce() {
        FirmTown x = ruled(2, "fine a 4;");
        x.seen(1, 0);
        x.seen(1, 0);
        Check.due("FINED", x.fines(0), 4);
        Check.due("FINES", x.of(1, 5), 4);
        Check.due("it was", x.fines(0), -1);
        Check.due("FINES", x.of(1, 5), 4);
        Check.due("the other", x.fines(1), 4);
        Check.due("FINES", x.of(1, 5), 8);
        Check.due("of another PERSON", x.of(0, 5), 0);
    }

    private static void finesAtTheirBounds() {
        FirmTown x = ruled(1, "fine a 9999;fine b 1;");
        x.seen(0, 1);
        Check.due("the least", x.fines(0), 1);
        for (int i = 1; i < 100; i++) {
            x.seen(0, 0);
            Check.due("the most", x.fines(i), 9999);
        }
        Check.due("FINES", x.of(0, 5), 1 + 99 * 9999);
    }

    /** In force on that DAY. */
    private static void inForceOnThatDay() {
        FirmTown x = Towns.of(1, 0);
        Check.tell(x, 5, "fine a 3;");
        x.days(4);
        x.seen(0, 0);
        x.days(1);
        x.seen(0, 0);
        x.days(1);
        x.seen(0, 0);
        Check.tell(x, 6, "fine a 8;");
        Check.due("SEEN the day ahead", x.fines(0), 0);
        Check.due("SEEN on its day", x.fines(1), 3);
        Check.due("SEEN on the day of a later one", x.fines(2), 8);
        FirmTown last = Towns.of(1, 0);
        Check.tell(last, 9999, "fine a 3;");
        Towns.until(last, 9998);
        last.seen(0, 0);
        last.days(1);
        last.seen(0, 0);
        Check.due("on the last day but one", last.fines(0), 0);
        Check.due("on the last day", last.fines(1), 3);
    }

    /** Known TODAY: what is told behind that DAY counts too. */
    private static void knownToday() {
        FirmTown x = ruled(1, "fine a 3;");
        Towns.repeat(3, () -> x.seen(0, 0));
        Check.due("by what was told", x.fines(0), 3);
        x.days(1);
        Check.tell(x, 0, "fine a 5;");
        Check.due("by what is told later", x.fines(1), 5);
        Check.tell(x, 0, "strike fine;");
        Check.due("struck later", x.fines(2), 0);
    }

    /** day, weeks of that DAY; other WORDS as now. */
    private static void weeksOfThatDay() {
        FirmTown x = ruled(1, "fine a 1 if weeks=0;fine a 2 if weeks=1;fine a 3 if pay=9;fine b 1;fine b 2 if day=7;");
        x.days(1);
        x.post(0, 5);
        x.days(6);
        x.seen(0, 0);
        x.seen(0, 1);
        x.days(1);
        x.seen(0, 0);
        x.seen(0, 0);
        x.seen(0, 1);
        x.days(30);
        Check.due("six days behind the POST's first", x.fines(0), 1);
        Check.due("seven days behind it", x.fines(2), 2);
        Check.due("that day", x.fines(1), 2);
        Check.due("the day behind", x.fines(4), 1);
        x.ends(0);
        x.post(0, 9);
        Check.due("PAY as now", x.fines(3), 3);
    }

    /** 0: no RULE (it isn't FINED). */
    private static void noRule() {
        FirmTown x = ruled(1, "fine a 1 if age>30;");
        x.seen(0, 0);
        Check.due("no RULE", x.fines(0), 0);
        Check.due("no RULE yet", x.fines(0), 0);
        Check.due("it isn't FINED", x.unlike(0), 1);
        Check.due("FINES", x.of(0, 5), 0);
        Check.tell(x, 0, "fine a 6;");
        Check.due("a RULE", x.fines(0), 6);
        Check.due("it is FINED", x.unlike(0), 0);
    }

    /** Promise 29: NONE: no such SEEN. */
    private static void unlikeOfWhich() {
        Edge.range("a SEEN", Edge.NONE, 0, 2, n -> {
            FirmTown x = ruled(1, "fine a 1;");
            Towns.repeat(3, () -> x.seen(0, 0));
            return x.unlike(n);
        });
    }

    /** How many SEEN of that NAME on that DAY are not FINED. */
    private static void unlikeOfNameAndDay() {
        FirmTown x = ruled(2, "fine a 1;fine b 1;");
        x.seen(0, 0);
        x.seen(1, 0);
        x.seen(0, 1);
        x.days(1);
        x.seen(0, 0);
        Check.due("of all PERSONS", x.unlike(0), 2);
        Check.due("of that NAME", x.unlike(2), 1);
        Check.due("on that DAY", x.unlike(3), 1);
        x.fines(0);
        Check.due("asked of one that is FINED", x.unlike(0), 1);
        Check.due("asked of one that isn't", x.unlike(1), 1);
        x.fines(1);
        Check.due("all are FINED", x.unlike(0), 0);
        Check.due("another NAME", x.unlike(2), 1);
        Check.due("another DAY", x.unlike(3), 1);
    }

    private static void hundredUnlike() {
        FirmTown x = ruled(1, "fine a 1;");
        Towns.repeat(100, () -> x.seen(0, 0));
        Check.due("all", x.unlike(0), 100);
        for (int i = 0; i < 100; i++) {
            x.fines(i);
            Check.due("not FINED", x.unlike(99), 99 - i);
        }
    }

    /** Promise 30: NONE: no such ones; a weight (1 to 9). */
    private static void flawsOfHouses() {
        Edge.range("a HOUSE", Edge.NONE, 0, 2, n -> Towns.of(0, 3).flaw(n, 5));
        Edge.range("a weight (1 to 9)", Edge.NONE, 1, 9, n -> Towns.of(0, 3).flaw(0, n));
    }

    /** FAULTS of HOUSES, at most 60. */
    private static void atMostSixtyFlaws() {
        FirmTown x = Towns.of(0, 2);
        for (int i = 0; i < 59; i++) {
            x.flaw(i % 2, 1);
        }
        x.mends(0);
        Check.due("the sixtieth", x.flaw(1, 1), 59);
        Check.due("the 61st, though one is mended", x.flaw(1, 1), -1);
        Check.due("FAULTS", x.count(7), 60);
        Check.due("the sixtieth is mended", x.mends(59), 0);
        Check.due("the 61st isn't there", x.mends(60), -1);
    }

    /** Promise 31: NONE: no such one, it was. */
    private static void mendsWhich() {
        Edge.range("a FAULT", Edge.NONE, 0, 2, n -> {
            FirmTown x = Towns.of(0, 1);
            Towns.repeat(3, () -> x.flaw(0, 1));
            return x.mends(n);
        });
        FirmTown x = Towns.of(0, 1);
        Check.due("none", x.mends(0), -1);
        x.flaw(0, 1);
        x.days(1);
        Check.due("a day", x.mends(0), 1);
        Check.due("it was", x.mends(0), -1);
        x.days(1);
        Check.due("it was", x.mends(0), -1);
    }

    private static void mendedOnTheLastDay() {
        FirmTown x = Towns.of(0, 1);
        x.flaw(0, 9);
        Towns.until(x, Towns.LAST_DAY);
        x.flaw(0, 9);
        Check.due("all days", x.mends(0), 9999);
        Check.due("none", x.mends(1), 0);
    }

    /** Promise 32: NONE: no such ones; (1) the HOUSE doesn't matter. */
    private static void waitsOfWhich() {
        FirmTown x = Towns.of(0, 3);
        x.flaw(2, 4);
        x.days(1);
        Edge.range("a HOUSE that WAITS", Edge.NONE, 0, 2, n -> x.waits(n, 0));
        Edge.range("what", Edge.NONE, 0, 1, n -> x.waits(2, n));
        for (int house : new int[] {-1, 0, 2, 3, Integer.MIN_VALUE, Integer.MAX_VALUE}) {
            Check.due("the one that WAITS most", x.waits(house, 1), 2);
        }
    }

    /** Weight times DAYS since, together, by all that are not mended. */
    private static void waitsByDays() {
        FirmTown x = Towns.of(0, 2);
        Check.due("no FAULT", x.waits(0, 0), 0);
        x.flaw(0, 9);
        Check.due("found TODAY", x.waits(0, 0), 0);
        Check.due("none WAITS", x.waits(0, 1), -1);
        x.days(1);
        Check.due("a day", x.waits(0, 0), 9);
        Check.due("it WAITS", x.waits(0, 1), 0);
        x.flaw(0, 1);
        x.days(1);
        Check.due("two days and one", x.waits(0, 0), 19);
        x.mends(0);
        Check.due("what isn't mended", x.waits(0, 0), 1);
        x.mends(1);
        Check.due("all are mended", x.waits(0, 0), 0);
        Check.due("none WAITS", x.waits(0, 1), -1);
    }

    /** The one that WAITS most (the first). */
    private static void waitsMost() {
        FirmTown x = Towns.of(0, 30);
        x.flaw(29, 1);
        x.days(1);
        Check.due("the thirtieth", x.waits(0, 1), 29);
        x.flaw(7, 1);
        x.mends(0);
        x.flaw(28, 1);
        x.days(1);
        Check.due("the first of two", x.waits(0, 1), 7);
        x.flaw(28, 1);
        x.days(1);
        Check.due("one more", x.waits(0, 1), 28);
        x.flaw(0, 3);
        x.days(1);
        Check.due("three of each", x.waits(7, 0), 3);
        Check.due("five of another", x.waits(28, 0), 5);
        Check.due("most", x.waits(0, 1), 28);
        x.mends(2);
        x.mends(3);
        Check.due("the first of like ones", x.waits(0, 1), 0);
    }

    private static void flawsOfASoldHouse() {
        FirmTown x = Towns.of(1, 2);
        x.flaw(0, 2);
        x.bid(0, 0, 1);
        x.sold(0, 0);
        Check.due("a FAULT of it", x.flaw(0, 1), 1);
        x.days(3);
        Check.due("it WAITS", x.waits(0, 0), 9);
        Check.due("most", x.waits(1, 1), 0);
        Check.due("mended", x.mends(0), 3);
    }

    private static void longestWait() {
        FirmTown x = Towns.of(0, 1);
        Towns.repeat(60, () -> x.flaw(0, 9));
        Towns.until(x, Towns.LAST_DAY);
        Check.due("sixty FAULTS, all days", x.waits(0, 0), 60 * 9 * 9999);
        Check.due("it WAITS", x.waits(0, 1), 0);
    }
}
