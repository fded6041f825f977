/** Promises 27 to 32: what was SEEN and FINED, and FAULTS of HOUSES. */
public final class SeenTest {
    public static void main(String[] args) {
        seen();
        fines();
        fineWords();
        unlike();
        flaws();
        waits();
        Check.close("SeenTest");
    }

    private static void seen() {
        FirmTown x = new FirmTown();
        x.person(2, 30);
        Check.due("no name", x.seen(0, 0), -1);
        Check.tell(x, 500, "fine a 1;fine b 2;");
        Check.due("no person", x.seen(1, 0), -1);
        Check.due("person -1", x.seen(-1, 0), -1);
        Check.due("name -1", x.seen(0, -1), -1);
        Check.due("name 2", x.seen(0, 2), -1);
        for (int i = 0; i < 100; i++) {
            Check.due("seen", x.seen(0, i % 2), i);
        }
        Check.due("the 101st", x.seen(0, 0), -1);
        Check.due("seen in all", x.count(6), 100);
    }

    private static void fines() {
        FirmTown x = new FirmTown();
        x.person(2, 30);
        x.person(2, 60);
        Check.tell(x, 1, "fine a 5;fine b 6 if age>50;");
        x.seen(0, 0);
        x.days(1);
        x.seen(0, 0);
        x.seen(0, 1);
        x.seen(1, 1);
        x.seen(0, 0);
        Check.due("no such", x.fines(5), -1);
        Check.due("no such", x.fines(-1), -1);
        Check.due("ahead of the rule", x.fines(0), 0);
        Check.due("a", x.fines(1), 5);
        Check.due("twice", x.fines(1), -1);
        Check.due("b doesn't hold", x.fines(2), 0);
        Check.due("b holds", x.fines(3), 6);
        Check.due("fines", x.of(0, 5), 5);
        Check.due("fines", x.of(1, 5), 6);
        Check.tell(x, 0, "fine a 7;");
        Check.due("as known today, in force then", x.fines(0), 7);
        Check.tell(x, 1, "fine a 8;");
        x.days(3);
        Check.tell(x, 4, "fine a 9;");
        Check.due("in force on that day", x.fines(4), 8);
        Check.due("fines in all", x.of(0, 5), 20);
    }

    private static void fineWords() {
        FirmTown x = new FirmTown();
        x.person(2, 30);
        x.post(0, 5);
        Check.tell(x, 0, "fine a 1 if day=3;fine a 2 if day=3 and pay=9;fine b 3 if weeks=1;");
        x.days(3);
        x.seen(0, 0);
        x.seen(0, 0);
        x.seen(0, 1);
        x.days(6);
        Check.due("day of that day", x.fines(0), 1);
        Check.due("weeks of that day", x.fines(2), 0);
        x.ends(0);
        x.post(0, 9);
        Check.due("pay as now", x.fines(1), 2);
        x.seen(0, 1);
        x.days(1);
        Check.due("weeks ahead of the post", x.fines(2), 0);
        x.days(7);
        x.seen(0, 1);
        Check.due("weeks", x.fines(3), 0);
        Check.due("weeks", x.fines(4), 3);
    }

    private static void unlike() {
        FirmTown x = new FirmTown();
        x.person(2, 30);
        x.person(2, 60);
        Check.tell(x, 0, "fine a 1;fine b 6;");
        x.seen(0, 0);
        x.seen(1, 0);
        x.seen(0, 0);
        x.seen(0, 1);
        x.days(1);
        x.seen(0, 0);
        Check.due("no such", x.unlike(5), -1);
        Check.due("no such", x.unlike(-1), -1);
        Check.due("none is fined", x.unlike(0), 3);
        x.fines(1);
        Check.due("one is fined", x.unlike(0), 2);
        Check.due("asked of that one", x.unlike(1), 2);
        Check.due("another name", x.unlike(3), 1);
        Check.due("another day", x.unlike(4), 1);
        x.fines(4);
        Check.due("all are fined", x.unlike(4), 0);
        Check.due("but not on the first day", x.unlike(2), 2);
    }

    private static void flaws() {
        FirmTown x = new FirmTown();
        x.house(2, 2);
        Check.due("no house", x.flaw(1, 1), -1);
        Check.due("house -1", x.flaw(-1, 1), -1);
        Check.due("weight 0", x.flaw(0, 0), -1);
        Check.due("weight 10", x.flaw(0, 10), -1);
        for (int i = 0; i < 60; i++) {
            Check.due("flaw", x.flaw(0, i % 9 + 1), i);
        }
        Check.due("the 61st", x.flaw(0, 1), -1);
        Check.due("flaws", x.count(7), 60);
        Check.due("mended at once", x.mends(1), 0);
        x.days(8);
        Check.due("mended", x.mends(59), 8);
        Check.due("mended twice", x.mends(59), -1);
        Check.due("no such", x.mends(60), -1);
        Check.due("no such", x.mends(-1), -1);
        Check.due("a mended one counts", x.flaw(0, 1), -1);
        x = new FirmTown();
        x.house(2, 2);
        x.days(5);
        x.flaw(0, 3);
        x.days(4);
        Check.due("days since it was found", x.mends(0), 4);
    }

    private static void waits() {
        FirmTown x = new FirmTown();
        Check.due("no house waits", x.waits(0, 1), -1);
        x.house(2, 2);
        x.house(2, 2);
        x.house(2, 2);
        Check.due("no flaw", x.waits(0, 0), 0);
        x.flaw(1, 9);
        Check.due("found today", x.waits(1, 0), 0);
        Check.due("none waits yet", x.waits(0, 1), -1);
        x.days(2);
        x.flaw(2, 3);
        x.flaw(1, 1);
        x.days(3);
        Check.due("together", x.waits(1, 0), 48);
        Check.due("another", x.waits(2, 0), 9);
        Check.due("none", x.waits(0, 0), 0);
        Check.due("most", x.waits(0, 1), 1);
        Check.due("of any house", x.waits(-5, 1), 1);
        Check.due("no house", x.waits(3, 0), -1);
        Check.due("house -1", x.waits(-1, 0), -1);
        Check.due("what -1", x.waits(0, -1), -1);
        Check.due("what 2", x.waits(0, 2), -1);
        x.mends(0);
        Check.due("what isn't mended", x.waits(1, 0), 3);
        Check.due("most", x.waits(0, 1), 2);
        x.flaw(0, 9);
        x.flaw(1, 5);
        x.days(1);
        Check.due("first of like ones", x.waits(0, 0), 9);
        Check.due("first of like ones", x.waits(1, 0), 9);
        Check.due("most", x.waits(0, 1), 2);
        x.mends(1);
        Check.due("the first of like ones", x.waits(9, 1), 0);
    }
}
