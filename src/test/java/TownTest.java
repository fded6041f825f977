/** Promises 1 to 6 and 40 to 42: a new object, persons, houses, posts, and what can be asked. */
public final class TownTest {
    public static void main(String[] args) {
        newObject();
        persons();
        houses();
        posts();
        clubAndHolds();
        ofPerson();
        ofHouse();
        counts();
        Check.close("TownTest");
    }

    private static void newObject() {
        FirmTown x = new FirmTown();
        for (int what = 0; what <= 12; what++) {
            Check.due("count(" + what + ") of a new one", x.count(what), what == 9 ? 100 : 0);
        }
        Check.due("NONE", FirmTown.NONE, -1);
        Check.due("place", x.place(), -1);
        Check.dueNoOf(x, 0, 0);
        Check.due("houseOf", x.houseOf(0, 0), -1);
    }

    private static void persons() {
        FirmTown x = new FirmTown();
        Check.due("heads 0", x.person(0, 30), -1);
        Check.due("heads 13", x.person(13, 30), -1);
        Check.due("age 9", x.person(1, 9), -1);
        Check.due("age 91", x.person(1, 91), -1);
        Check.due("least", x.person(1, 10), 0);
        Check.due("most", x.person(12, 90), 1);
        for (int i = 2; i < 60; i++) {
            Check.due("person", x.person(2, 20), i);
        }
        Check.due("the 61st", x.person(2, 20), -1);
        Check.due("persons", x.count(0), 60);
    }

    private static void houses() {
        FirmTown x = new FirmTown();
        Check.due("rooms 0", x.house(0, 0), -1);
        Check.due("rooms 10", x.house(10, 0), -1);
        Check.due("rank -1", x.house(1, -1), -1);
        Check.due("rank 6", x.house(1, 6), -1);
        Check.due("least", x.house(1, 0), 0);
        Check.due("most", x.house(9, 5), 1);
        for (int i = 2; i < 30; i++) {
            Check.due("house", x.house(2, 2), i);
        }
        Check.due("the 31st", x.house(2, 2), -1);
        Check.due("houses", x.count(1), 30);
    }

    private static void posts() {
        FirmTown x = new FirmTown();
        x.person(2, 30);
        x.person(2, 30);
        x.days(3);
        Check.due("no person", x.post(2, 5), false);
        Check.due("person -1", x.post(-1, 5), false);
        Check.due("pay 0", x.post(0, 0), false);
        Check.due("pay 201", x.post(0, 201), false);
        Check.due("pay 200", x.post(0, 200), true);
        Check.due("pay 1", x.post(1, 1), true);
        Check.due("a second", x.post(0, 5), false);
        Check.due("pay", x.of(0, 8), 200);
        Check.due("from", x.of(0, 9), 3);
        x.ends(0);
        x.days(1);
        Check.due("again", x.post(0, 6), true);
        Check.due("from again", x.of(0, 9), 4);
    }

    private static void clubAndHolds() {
        FirmTown x = new FirmTown();
        x.person(2, 30);
        Check.due("no person", x.club(1, 5), false);
        Check.due("club -1", x.club(0, -1), false);
        Check.due("club 10000", x.club(0, 10000), false);
        Check.due("club 9999", x.club(0, 9999), true);
        Check.due("club is", x.of(0, 7), 9999);
        Check.due("club 0", x.club(0, 0), true);
        Check.due("club is none", x.of(0, 7), 0);
        Check.due("holds -1", x.holds(-1), false);
        Check.due("holds 101", x.holds(101), false);
        Check.due("holds at first", x.count(9), 100);
        Check.due("holds 0", x.holds(0), true);
        Check.due("holds is", x.count(9), 0);
        Check.due("holds 100", x.holds(100), true);
        Check.due("holds is", x.count(9), 100);
    }

    private static void ofPerson() {
        FirmTown x = new FirmTown();
        x.person(4, 33);
        int[] fresh = {4, 33, 0, 0, 0, 0, 0, 0, 0, -1, -1, -1, 0, -1};
        for (int what = 0; what < fresh.length; what++) {
            Check.due("of(0, " + what + ")", x.of(0, what), fresh[what]);
        }
        Check.dueNoOf(x, 0, -1);
        Check.dueNoOf(x, 0, 14);
        Check.dueNoOf(x, 1, 0);
        Check.dueNoOf(x, -1, 0);
        x.house(2, 0);
        x.post(0, 10);
        x.asks(0);
        Check.due("place in the queue", x.of(0, 13), 0);
        x.give(0);
        Check.due("house", x.of(0, 10), 0);
        Check.due("no place in the queue", x.of(0, 13), -1);
        x.ends(0);
        Check.due("must leave", x.of(0, 11), 7);
        Check.due("pay without a post", x.of(0, 8), 0);
        Check.due("from without a post", x.of(0, 9), -1);
        x.days(8);
        Check.due("has left", x.of(0, 10), -1);
        Check.due("needn't leave twice", x.of(0, 11), -1);
    }

    private static void ofHouse() {
        FirmTown x = new FirmTown();
        x.house(3, 4);
        x.person(2, 30);
        x.person(2, 30);
        Check.due("rooms", x.houseOf(0, 0), 3);
        Check.due("rank", x.houseOf(0, 1), 4);
        Check.due("empty", x.houseOf(0, 2), 0);
        Check.due("nobody", x.houseOf(0, 3), -1);
        Check.due("what -1", x.houseOf(0, -1), -1);
        Check.due("what 4", x.houseOf(0, 4), -1);
        Check.due("house -1", x.houseOf(-1, 0), -1);
        Check.due("house 1", x.houseOf(1, 0), -1);
        x.post(1, 5);
        x.asks(1);
        x.give(0);
        Check.due("let", x.houseOf(0, 2), 1);
        Check.due("to whom", x.houseOf(0, 3), 1);
        x.bid(0, 0, 9);
        x.sold(0, 0);
        Check.due("sold", x.houseOf(0, 2), 2);
        Check.due("to whom", x.houseOf(0, 3), 0);
    }

    private static void counts() {
        FirmTown x = new FirmTown();
        x.person(2, 30);
        x.house(2, 2);
        x.house(2, 2);
        Check.tell(x, 0, "fine a 1;fine b 2;fine a 3;");
        Check.feed(x, "keep");
        x.hours(0, 1, 5);
        x.hours(0, 1, 6);
        x.hours(0, 1, 6);
        x.seen(0, 0);
        x.seen(0, 1);
        x.flaw(1, 1);
        x.post(0, 10);
        x.asks(0);
        x.club(0, 30);
        x.holds(50);
        x.days(15);
        int[] due = {1, 2, 15, 1, 2, 3, 2, 1, 15, 50, 4, 1, 2};
        for (int what = 0; what < due.length; what++) {
            Check.due("count(" + what + ")", x.count(what), due[what]);
        }
        Check.due("count(-1)", x.count(-1), -1);
        Check.due("count(13)", x.count(13), -1);
    }
}
