/** The edges that promises 22 to 26 and the words about a POST's end and THE QUEUE name. */
public final class EdgeHouseTest {
    public static void main(String[] args) {
        endsOfWhom();
        staysOrLeaves();
        leavesOnThatDay();
        leavesOnTheLastDays();
        postAgainByThen();
        undoneOfWhom();
        undoneWithin30Days();
        undoneOnTheLastDay();
        undoneHouseOnTheDayOfLeaving();
        undoneHouseThatIsEmpty();
        undoneQueue();
        asksOfWhom();
        emptyQueue();
        queueOfSixty();
        queueThatIsLeft();
        givenHouses();
        headsByRooms();
        likeRanks();
        ranksAtTheirBounds();
        passedOfWhom();
        fiftyNinePassed();
        passedByTheLatest();
        Check.close("EdgeHouseTest");
    }

    private static FirmTown housed(int persons, String rules) {
        FirmTown x = Towns.housed(persons);
        Check.tell(x, 0, rules);
        return x;
    }

    /** Promise 22: NONE: no such PERSON, no POST. */
    private static void endsOfWhom() {
        Edge.range("a PERSON", Edge.NONE, 0, 1, n -> Towns.housed(2).ends(n));
        FirmTown x = Towns.of(1, 0);
        Check.due("no POST", x.ends(0), -1);
        x.post(0, 1);
        Check.due("a POST without a HOUSE", x.ends(0), -2);
        Check.due("no POST more", x.ends(0), -1);
        Check.due("needn't leave", x.of(0, 11), -1);
    }

    /** If THE RULE of keep is 1, or the HOUSE is SOLD, it stays. */
    private static void staysOrLeaves() {
        Check.due("no rule", housed(1, "").ends(0), 7);
        Check.due("keep", housed(1, "keep;").ends(0), -2);
        Check.due("keep that doesn't hold", housed(1, "keep if pay=0;").ends(0), 7);
        Check.due("keep as it was with the POST", housed(1, "keep if pay=10;").ends(0), -2);
        Check.due("leave as it was with the POST", housed(1, "leave 3 if pay=10;leave 4 if pay=0;").ends(0), 3);
        FirmTown x = housed(2, "");
        x.bid(0, 0, 1);
        x.bid(0, 1, 1);
        x.sold(0, 0);
        x.sold(1, 0);
        Check.due("its own", x.ends(0), -2);
        Check.due("SOLD to another: it has none", x.ends(1), -2);
        x.days(60);
        Check.due("it stays", x.of(0, 10), 0);
    }

    /** On that DAY (as it goes by) it has no HOUSE more, that is EMPTY. */
    private static void leavesOnThatDay() {
        for (int leave : new int[] {0, 1, 6, 7, 98, 99}) {
            FirmTown x = housed(1, "leave " + leave + ";");
            Check.due("leave " + leave, x.ends(0), leave);
            Towns.until(x, leave);
            Check.due("HOUSE till that day goes by", x.of(0, 10), 0);
            Check.due("the day", x.of(0, 11), leave);
            Check.due("LET", x.houseOf(0, 2), 1);
            x.days(1);
            Check.due("HOUSE", x.of(0, 10), -1);
            Check.due("no day more", x.of(0, 11), -1);
            Check.due("EMPTY", x.houseOf(0, 2), 0);
            Check.due("to nobody", x.houseOf(0, 3), -1);
        }
    }

    private static void leavesOnTheLastDays() {
        int[][] todayLeaveHouse = {{9949, 49, -1}, {9950, 49, 0}, {9998, 0, -1}, {9999, 0, 0}, {9999, 99, 0}};
        for (int[] c : todayLeaveHouse) {
            FirmTown x = housed(1, "leave " + c[1] + ";");
            Towns.until(x, c[0]);
            Check.due("leave " + c[1] + " on " + c[0], x.ends(0), c[0] + c[1]);
            Towns.until(x, Towns.LAST_DAY);
            Check.due("the last day does not go by", x.days(1), -1);
            Check.due("HOUSE", x.of(0, 10), c[2]);
            Check.due("the day", x.of(0, 11), c[2] == 0 ? c[0] + c[1] : -1);
        }
    }

    /** Who has a POST again by then stays; of what was to be nothing is left. */
    private static void postAgainByThen() {
        for (int day : new int[] {0, 6, 7, 8}) {
            FirmTown x = housed(1, "");
            x.ends(0);
            x.days(day);
            Check.due("a POST again on " + day, x.post(0, 5), true);
            x.days(30);
            Check.due("HOUSE", x.of(0, 10), day <= 7 ? 0 : -1);
            Check.due("no day", x.of(0, 11), -1);
            Check.due("the next end", x.ends(0), day <= 7 ? day + 37 : -2);
        }
    }

    /** Promise 23: NONE: no such PERSON, it can't be. */
    private static void undoneOfWhom() {
        Edge.range("a PERSON", Edge.NONE, 0, 1, n -> {
            FirmTown x = Towns.housed(2);
            x.ends(0);
            x.ends(1);
            return x.undone(n);
        });
        FirmTown x = Towns.of(1, 0);
        Check.due("never a POST", x.undone(0), -1);
        x.post(0, 9);
        Check.due("a POST", x.undone(0), -1);
        x.ends(0);
        x.post(0, 8);
        Check.due("a POST again", x.undone(0), -1);
        Check.due("PAY", x.of(0, 8), 8);
        x.ends(0);
        Check.due("of the later one", x.undone(0), 0);
        Check.due("PAY", x.of(0, 8), 8);
        Check.due("once", x.undone(0), -1);
    }

    /** TODAY is not behind 30 DAYS from its end. */
    private static void undoneWithin30Days() {
        for (int days : new int[] {0, 1, 29, 30, 31, 60}) {
            FirmTown x = housed(1, "leave 99;");
            x.days(4);
            x.ends(0);
            x.days(days);
            Check.due("undone behind " + days, x.undone(0), days <= 30 ? 0 : -1);
            Check.due("PAY", x.of(0, 8), days <= 30 ? 10 : 0);
            Check.due("from", x.of(0, 9), days <= 30 ? 0 : -1);
            Check.due("must leave", x.of(0, 11), days <= 30 ? -1 : 103);
            Check.due("HOUSE", x.of(0, 10), 0);
        }
    }

    private static void undoneOnTheLastDay() {
        for (int end : new int[] {9968, 9969, 9999}) {
            FirmTown x = housed(1, "leave 99;");
            Towns.until(x, end);
            x.ends(0);
            Towns.until(x, Towns.LAST_DAY);
            Check.due("ended on " + end, x.undone(0), end == 9968 ? -1 : 0);
        }
    }

    /** A HOUSE that it left by it is LET to it again. */
    private static void undoneHouseOnTheDayOfLeaving() {
        for (int day : new int[] {6, 7, 8, 30}) {
            FirmTown x = housed(1, "");
            x.ends(0);
            x.days(day);
            Check.due("undone on " + day, x.undone(0), day <= 7 ? 0 : 1);
            Check.due("HOUSE", x.of(0, 10), 0);
            Check.due("LET", x.houseOf(0, 2), 1);
            Check.due("to it", x.houseOf(0, 3), 0);
            x.days(9);
            Check.due("it stays", x.of(0, 10), 0);
        }
    }

    /** If that is EMPTY: not LET, not SOLD. */
    private static void undoneHouseThatIsEmpty() {
        FirmTown x = housed(1, "leave 0;keep if age=31;");
        x.person(2, 31);
        x.ends(0);
        x.days(1);
        x.post(1, 5);
        x.asks(1);
        x.give(0);
        Check.due("LET", x.undone(0), 0);
        Check.due("HOUSE", x.of(0, 10), -1);
        x.ends(0);
        Check.due("left by an earlier end", x.undone(0), 0);
        FirmTown y = housed(1, "leave 0;");
        y.person(2, 31);
        y.ends(0);
        y.days(1);
        y.bid(0, 0, 1);
        y.sold(0, 0);
        Check.due("SOLD, though to itself", y.undone(0), 0);
        Check.due("HOUSE", y.of(0, 10), -1);
        FirmTown z = housed(1, "leave 0;");
        z.person(2, 31);
        z.ends(0);
        z.days(1);
        z.post(1, 5);
        z.asks(1);
        z.give(0);
        z.ends(1);
        z.days(1);
        Check.due("LET meanwhile, EMPTY again", z.undone(0), 1);
        Check.due("HOUSE", z.of(0, 10), 0);
        Check.due("not to the other too", z.undone(1), 0);
    }

    private static void undoneQueue() {
        FirmTown x = Towns.of(2, 0);
        x.post(0, 1);
        x.post(1, 1);
        x.asks(0);
        x.asks(1);
        x.ends(0);
        x.undone(0);
        Check.due("who lost the POST is in it no more", x.of(0, 13), -1);
        Check.due("it asks behind the other", x.asks(0), 1);
    }

    /** Promise 24: NONE: no such one, no POST, it has a HOUSE, it is in THE QUEUE. */
    private static void asksOfWhom() {
        Edge.range("a PERSON", Edge.NONE, 0, 1, n -> {
            FirmTown x = Towns.of(2, 0);
            x.post(0, 1);
            x.post(1, 1);
            return x.asks(n);
        });
        FirmTown x = Towns.of(1, 1);
        Check.due("no POST", x.asks(0), -1);
        x.post(0, 1);
        Check.due("a POST", x.asks(0), 0);
        Check.due("in THE QUEUE", x.asks(0), -1);
        x.give(0);
        Check.due("a HOUSE", x.asks(0), -1);
        x.ends(0);
        Check.due("no POST, a HOUSE", x.asks(0), -1);
        x.days(8);
        Check.due("no POST", x.asks(0), -1);
        x.post(0, 1);
        Check.due("a POST, no HOUSE", x.asks(0), 0);
    }

    private static void emptyQueue() {
        FirmTown x = Towns.of(1, 1);
        x.post(0, 1);
        Check.due("nobody asked", x.give(0), -2);
        Check.due("EMPTY yet", x.houseOf(0, 2), 0);
        x.asks(0);
        x.ends(0);
        Check.due("nobody is in it more", x.give(0), -2);
        Check.due("how many", x.count(11), 0);
    }

    private static FirmTown sixtyInQueue() {
        FirmTown x = Towns.of(59, 1);
        x.person(1, 30);
        for (int i = 0; i < 60; i++) {
            x.post(i, 1);
            x.asks(i);
        }
        return x;
    }

    private static void queueOfSixty() {
        FirmTown x = sixtyInQueue();
        Check.due("how many", x.count(11), 60);
        Check.due("the first", x.of(0, 13), 0);
        Check.due("the last", x.of(59, 13), 59);
        Check.due("all are in it", x.asks(59), -1);
    }

    /** Who was GIVEN, lost the POST or has a HOUSE is in it no more. */
    private static void queueThatIsLeft() {
        FirmTown x = sixtyInQueue();
        x.ends(0);
        Check.due("the first left", x.of(1, 13), 0);
        x.ends(59);
        Check.due("the last left", x.of(58, 13), 57);
        x.ends(30);
        Check.due("ahead of one that left", x.of(29, 13), 28);
        Check.due("behind one that left", x.of(31, 13), 29);
        Check.due("how many", x.count(11), 57);
        Check.due("given", x.give(0), 1);
        Check.due("how many", x.count(11), 56);
        Check.due("the first now", x.of(2, 13), 0);
        Check.due("who left", x.of(30, 13), -1);
        x.post(0, 1);
        Check.due("asks again, behind all", x.asks(0), 56);
    }

    /** Promise 25: NONE: no such one, it isn't EMPTY. */
    private static void givenHouses() {
        Edge.range("a HOUSE", Edge.NONE, 0, 2, n -> Towns.of(1, 3).give(n));
        FirmTown x = Towns.of(3, 3);
        for (int i = 0; i < 3; i++) {
            x.post(i, 1);
            x.asks(i);
        }
        x.bid(0, 1, 1);
        x.sold(1, 0);
        Check.due("EMPTY", x.give(0), 0);
        Check.due("LET", x.give(0), -1);
        Check.due("SOLD", x.give(1), -1);
        Check.due("EMPTY", x.give(2), 1);
    }

    /** HEADS not above 2 * ROOMS. */
    private static void headsByRooms() {
        for (int rooms = 1; rooms <= 9; rooms++) {
            for (int heads = 1; heads <= 12; heads++) {
                FirmTown x = new FirmTown();
                x.person(heads, 30);
                x.house(rooms, 5);
                x.post(0, 1);
                x.asks(0);
                Check.due(heads + " heads, " + rooms + " rooms", x.give(0), heads <= 2 * rooms ? 0 : -2);
            }
        }
    }

    /** The greatest VALUE of rank (of like ones the first of THE QUEUE). */
    private static void givenByRank(String rule, int due) {
        FirmTown x = new FirmTown();
        for (int i = 0; i < 4; i++) {
            x.person(2, 30 + i);
            x.post(i, 1);
        }
        x.house(1, 0);
        Check.tell(x, 0, rule);
        x.asks(2);
        x.asks(1);
        x.asks(3);
        x.asks(0);
        Check.due(rule, x.give(0), due);
    }

    private static void likeRanks() {
        givenByRank("", 2);
        givenByRank("rank 5;", 2);
        givenByRank("rank age;", 3);
        givenByRank("rank 0-age;", 0);
        givenByRank("rank 1 if age=30;", 0);
        givenByRank("rank 1 if not age=32;", 1);
        givenByRank("rank 0-1;rank 0-2 if age=32;", 1);
        givenByRank("rank 0-1 if not age=30;", 0);
    }

    private static void ranksAtTheirBounds() {
        givenByRank("rank 1000*1000*1000*age;", 2);
        givenByRank("rank 1000*1000*1000-1;rank 1000*1000*1001 if age=33;", 3);
        givenByRank("rank 0-1000*1000*1000;", 2);
        givenByRank("rank 0-1000*1000*1000;rank 1-1000*1000*1000 if age=30;", 0);
        givenByRank("rank 0-1000*1000*1000;rank 1000*1000*1000 if age=33;", 3);
    }

    /** Promise 26: NONE: no such PERSON. */
    private static void passedOfWhom() {
        Edge.range("a PERSON", Edge.NONE, 0, 1, n -> Towns.of(2, 0).passed(n));
        Check.due("none was GIVEN", Towns.of(1, 1).passed(0), 0);
    }

    private static void fiftyNinePassed() {
        FirmTown x = sixtyInQueue();
        x.house(1, 0);
        Check.tell(x, 0, "rank 1 if heads=1;");
        Check.due("the last of sixty", x.give(1), 59);
        for (int i = 0; i < 59; i++) {
            Check.due("for rank", x.passed(i), 2);
        }
        Check.due("it wasn't", x.passed(59), 0);
        FirmTown y = new FirmTown();
        for (int i = 0; i < 60; i++) {
            y.person(i == 59 ? 2 : 3, 30);
            y.post(i, 1);
            y.asks(i);
        }
        y.house(1, 0);
        Check.due("the last of sixty", y.give(0), 59);
        for (int i = 0; i < 59; i++) {
            Check.due("for ROOMS", y.passed(i), 1);
        }
    }

    /** PASSED OVER as the latest HOUSE was GIVEN: those ahead of it in THE QUEUE. */
    private static void passedByTheLatest() {
        FirmTown x = new FirmTown();
        int[] heads = {3, 2, 2, 2};
        for (int i = 0; i < 4; i++) {
            x.person(heads[i], 30 + i);
            x.post(i, 1);
            x.asks(i);
        }
        Towns.repeat(4, () -> x.house(1, 0));
        x.house(2, 0);
        Check.tell(x, 0, "rank 1 if age=32;");
        Check.due("given", x.give(0), 2);
        passed(x, 1, 2, 0, 0);
        Check.due("given", x.give(1), 1);
        passed(x, 1, 0, 0, 0);
        Check.due("given", x.give(2), 3);
        passed(x, 1, 0, 0, 0);
        Check.due("nobody: none was GIVEN", x.give(3), -2);
        passed(x, 1, 0, 0, 0);
        Check.due("it is LET", x.give(2), -1);
        passed(x, 1, 0, 0, 0);
        Check.due("given to the first", x.give(4), 0);
        passed(x, 0, 0, 0, 0);
    }

    private static void passed(FirmTown x, int... due) {
        for (int i = 0; i < due.length; i++) {
            Check.due("passed(" + i + ")", x.passed(i), due[i]);
        }
    }
}
