/** The edges that promises 1 to 6 and 40 to 42 name, and of an empty town. */
public final class EdgeTownTest {
    public static void main(String[] args) {
        emptyTown();
        daysGoByInAnEmptyTown();
        headsAndAge();
        atMostSixtyPersons();
        roomsAndRank();
        atMostThirtyHouses();
        payOfPost();
        postOfWhom();
        onePostAtATime();
        postFromTheLastDay();
        clubOf();
        holdsHundredths();
        whatOfPersons();
        whatOfHouses();
        whatIsCounted();
        Check.close("EdgeTownTest");
    }

    /** Promise 1: No PERSONS, HOUSES, TEXTS; DAY 0; an empty TAPE; nothing in BOX. */
    private static void emptyTown() {
        FirmTown x = new FirmTown();
        Check.dueNoOf(x, 0, 0);
        Check.dueNoValue(x, 0, 0, 0, 0);
        Check.dueNoRow(x, 0, 0, 0);
        Check.due("passed of nobody", x.passed(0), -1);
        Check.due("post of nobody", x.post(0, 1), false);
        Check.due("hours of nobody", x.hours(0, 0, 1), false);
        Check.due("asks of nobody", x.asks(0), -1);
        Check.due("draws of nobody", x.draws(0), -1);
        Check.due("no house to give", x.give(0), -1);
        Check.due("no house to sell", x.sells(1), -1);
        Check.due("no buyer of it", x.buyer(1, 0), -1);
        Check.due("no house waits", x.waits(0, 0), -1);
        Check.due("none waits most", x.waits(0, 1), -1);
        Check.due("no seen", x.fines(0), -1);
        Check.due("no seen", x.unlike(0), -1);
        Check.due("no fault", x.mends(0), -1);
        Check.due("no text", x.other(0, 0), -1);
        Check.due("no home", x.lasting(0, 1000000), 0);
        Check.due("who would have less", x.run(0), 0);
        Check.due("what would lack", x.run(1), 0);
        Check.due("the end of an empty tape", x.end(0), 0);
        Check.due("the end of an empty tape", x.end(1), -1);
        Check.due("no fault's place", x.place(), -1);
        Check.due("an empty tape is a text", x.text(0), 0);
    }

    private static void daysGoByInAnEmptyTown() {
        FirmTown x = new FirmTown();
        Check.due("days", x.days(60), 60);
        Check.due("closed weeks", x.count(12), 8);
        Check.dueNoRow(x, 0, 0, 0);
        x.person(2, 30);
        Check.dueNoRow(x, 7, 0, 0);
        x.days(3);
        Check.due("the first row of who came", x.row(8, 0, 4), 1);
    }

    /** Promise 2: HEADS (1 to 12), AGE (10 to 90). */
    private static void headsAndAge() {
        Edge.range("HEADS (1 to 12)", Edge.NONE, 1, 12, n -> new FirmTown().person(n, 30));
        Edge.range("AGE (10 to 90)", Edge.NONE, 10, 90, n -> new FirmTown().person(2, n));
        FirmTown x = new FirmTown();
        x.person(1, 90);
        x.person(12, 10);
        Check.due("HEADS 1", x.of(0, 0), 1);
        Check.due("AGE 90", x.of(0, 1), 90);
        Check.due("HEADS 12", x.of(1, 0), 12);
        Check.due("AGE 10", x.of(1, 1), 10);
    }

    /** Promise 2: NONE: sixty are there. */
    private static void atMostSixtyPersons() {
        FirmTown x = Towns.of(59, 0);
        Check.due("the sixtieth", x.person(3, 31), 59);
        Check.due("the 61st", x.person(3, 31), -1);
        Check.due("persons", x.count(0), 60);
        Check.due("the sixtieth is there", x.of(59, 1), 31);
        Check.dueNoOf(x, 60, 1);
        Check.due("the sixtieth has a post", x.post(59, 1), true);
        Check.due("the 61st has none", x.post(60, 1), false);
    }

    /** Promise 3: ROOMS (1 to 9), RANK (0 to 5). */
    private static void roomsAndRank() {
        Edge.range("ROOMS (1 to 9)", Edge.NONE, 1, 9, n -> new FirmTown().house(n, 0));
        Edge.range("RANK (0 to 5)", Edge.NONE, 0, 5, n -> new FirmTown().house(1, n));
        FirmTown x = new FirmTown();
        x.house(1, 5);
        x.house(9, 0);
        Check.due("ROOMS 1", x.houseOf(0, 0), 1);
        Check.due("RANK 5", x.houseOf(0, 1), 5);
        Check.due("ROOMS 9", x.houseOf(1, 0), 9);
        Check.due("RANK 0", x.houseOf(1, 1), 0);
    }

    /** Promise 3: NONE: thirty are there. */
    private static void atMostThirtyHouses() {
        FirmTown x = Towns.of(0, 29);
        Check.due("the thirtieth", x.house(3, 5), 29);
        Check.due("the 31st", x.house(3, 5), -1);
        Check.due("houses", x.count(1), 30);
        Check.due("the thirtieth is there", x.houseOf(29, 0), 3);
        Check.due("the 31st isn't", x.houseOf(30, 0), -1);
    }

    /** Promise 4: PAY an hour (1 to 200). */
    private static void payOfPost() {
        Edge.range("PAY (1 to 200)", Edge.FALSE, 1, 200, n -> Edge.number(Towns.of(1, 0).post(0, n)));
        for (int pay : new int[] {1, 200}) {
            FirmTown x = Towns.of(1, 0);
            x.post(0, pay);
            Check.due("PAY " + pay, x.of(0, 8), pay);
        }
    }

    /** Promise 4: False: no such ones. */
    private static void postOfWhom() {
        Edge.range("a PERSON", Edge.FALSE, 0, 2, n -> Edge.number(Towns.of(3, 0).post(n, 5)));
    }

    /** Promise 4: False: it has one. */
    private static void onePostAtATime() {
        FirmTown x = Towns.of(2, 0);
        Check.due("a first", x.post(0, 5), true);
        Check.due("a second", x.post(0, 6), false);
        Check.due("PAY as it was", x.of(0, 8), 5);
        Check.due("of another", x.post(1, 6), true);
        x.ends(0);
        Check.due("when it has none again", x.post(0, 6), true);
        Check.due("PAY", x.of(0, 8), 6);
    }

    private static void postFromTheLastDay() {
        FirmTown x = Towns.of(1, 0);
        Towns.until(x, Towns.LAST_DAY);
        Check.due("a post on the last day", x.post(0, 5), true);
        Check.due("from it", x.of(0, 9), Towns.LAST_DAY);
    }

    /** Promise 5: CLUB of a PERSON (0 to 9999). False: no such ones. */
    private static void clubOf() {
        Edge.range("CLUB (0 to 9999)", Edge.FALSE, 0, 9999, n -> Edge.number(Towns.of(1, 0).club(0, n)));
        Edge.range("a PERSON", Edge.FALSE, 0, 2, n -> Edge.number(Towns.of(3, 0).club(n, 5)));
        FirmTown x = Towns.of(1, 0);
        x.post(0, 200);
        x.hours(0, 0, 84);
        x.hours(0, 1, 84);
        x.club(0, 9999);
        x.days(7);
        Check.due("CLUB 9999", x.of(0, 3), 9999);
        x.club(0, 0);
        x.days(7);
        Check.due("CLUB 0", x.of(0, 3), 9999);
    }

    /** Promise 6: HOLDS (0 to 100). False: another number. */
    private static void holdsHundredths() {
        Edge.range("HOLDS (0 to 100)", Edge.FALSE, 0, 100, n -> Edge.number(new FirmTown().holds(n)));
        FirmTown x = new FirmTown();
        x.holds(0);
        Check.due("HOLDS 0", x.count(9), 0);
        x.holds(100);
        Check.due("HOLDS 100", x.count(9), 100);
    }

    /** Promise 40: what 0 to 13. NoSuchElementException: no such ones. */
    private static void whatOfPersons() {
        Edge.range("what of a PERSON", Edge.THREW, 0, 13, n -> Towns.of(2, 0).of(0, n));
        Edge.range("a PERSON", Edge.THREW, 0, 1, n -> Towns.of(2, 0).of(n, 0));
    }

    /** Promise 41: what 0 to 3. NONE for others. */
    private static void whatOfHouses() {
        Edge.range("what of a HOUSE", Edge.NONE, 0, 3, n -> Towns.housed(2).houseOf(0, n));
        Edge.range("a HOUSE", Edge.NONE, 0, 1, n -> Towns.housed(2).houseOf(n, 0));
    }

    /** Promise 42: what 0 to 12. NONE for others. */
    private static void whatIsCounted() {
        Edge.range("what is counted", Edge.NONE, 0, 12, n -> new FirmTown().count(n));
    }
}
