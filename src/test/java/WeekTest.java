/** Promises 15 to 17: HOURS, DAYS that go by, and the ROWS of CLOSED WEEKS. */
public final class WeekTest {
    public static void main(String[] args) {
        hours();
        tellings();
        days();
        row();
        stopping();
        lacks();
        rulesOfTheDay();
        wordsAheadOfAll();
        soldHouse();
        box();
        Check.close("WeekTest");
    }

    private static void hours() {
        FirmTown x = new FirmTown();
        x.person(1, 30);
        Check.due("no person", x.hours(1, 0, 1), false);
        Check.due("person -1", x.hours(-1, 0, 1), false);
        Check.due("week -1", x.hours(0, -1, 1), false);
        Check.due("week 1429", x.hours(0, 1429, 1), false);
        Check.due("week 1428", x.hours(0, 1428, 1), true);
        Check.due("hours -1", x.hours(0, 0, -1), false);
        Check.due("hours 85", x.hours(0, 0, 85), false);
        Check.due("hours 84", x.hours(0, 0, 84), true);
        Check.due("hours 0", x.hours(0, 1, 0), true);
        x.days(6);
        Check.due("the last day", x.hours(0, 0, 9), true);
        x.post(0, 10);
        x.days(1);
        Check.due("closed", x.hours(0, 0, 9), false);
        Check.due("the last telling counts", x.row(0, 0, 0), 90);
        Check.due("told", x.count(5), 4);
    }

    private static void tellings() {
        FirmTown x = new FirmTown();
        x.person(1, 30);
        x.person(1, 30);
        x.post(0, 1);
        x.post(1, 1);
        for (int i = 0; i < 400; i++) {
            Check.due("hours", x.hours(i % 2, 1, i % 80), true);
        }
        Check.due("the 401st", x.hours(0, 1, 5), false);
        x.days(14);
        Check.due("first", x.row(1, 0, 0), 398 % 80);
        Check.due("second", x.row(1, 1, 0), 399 % 80);
        Check.due("another week", x.row(0, 0, 0), 0);
    }

    private static void days() {
        FirmTown x = new FirmTown();
        Check.due("days 0", x.days(0), 0);
        Check.due("days -1", x.days(-1), -1);
        Check.due("days 61", x.days(61), -1);
        for (int i = 1; i <= 166; i++) {
            Check.due("days 60", x.days(60), 60 * i);
        }
        Check.due("above 9999", x.days(40), -1);
        Check.due("today", x.count(2), 9960);
        Check.due("to 9999", x.days(39), 9999);
        Check.due("no day more", x.days(1), -1);
        Check.due("but none", x.days(0), 9999);
        Check.due("weeks", x.count(12), 1428);
    }

    private static void row() {
        FirmTown x = new FirmTown();
        x.person(2, 30);
        Check.dueNoRow(x, 0, 0, 0);
        x.house(3, 1);
        x.house(3, 1);
        x.post(0, 10);
        x.asks(0);
        x.give(1);
        Check.tell(x, 0, "rent 33;");
        x.hours(0, 0, 12);
        x.days(6);
        Check.dueNoRow(x, 0, 0, 0);
        x.days(1);
        int[] due = {120, 33, 33, 87, 0, 10, 1};
        for (int what = 0; what <= 6; what++) {
            Check.due("row of " + what, x.row(0, 0, what), due[what]);
        }
        x.person(2, 30);
        Check.dueNoRow(x, 0, 1, 0);
        Check.dueNoRow(x, 0, -1, 0);
        Check.dueNoRow(x, 0, 0, -1);
        Check.dueNoRow(x, 0, 0, 7);
        Check.dueNoRow(x, 1, 0, 0);
        Check.dueNoRow(x, -1, 0, 0);
        x.days(7);
        Check.due("who came later", x.row(1, 1, 5), 0);
        Check.due("without a house", x.row(1, 1, 6), -1);
        Check.due("without a house there is no rent", x.row(1, 1, 1), 0);
        Check.due("arrears", x.of(0, 6), 33);
        Check.due("the first row stays", x.row(0, 0, 0), 120);
    }

    /** A PERSON with tenpence an hour that is let a HOUSE. */
    private static FirmTown home() {
        FirmTown x = new FirmTown();
        x.person(1, 30);
        x.house(1, 1);
        x.post(0, 10);
        x.asks(0);
        x.give(0);
        return x;
    }

    /** A PERSON that owes 9 of fines, 40 of arrears, 50 of debt, and saves 30 a WEEK. */
    private static FirmTown owing(int most, int hours) {
        FirmTown x = home();
        Check.tell(x, 0, "fine a 9;credit 50;rent 20;most " + most + ";");
        x.seen(0, 0);
        x.fines(0);
        x.good(0, 50, 50, 5);
        x.buys(0, 0, 1);
        x.club(0, 30);
        x.days(7);
        x.hours(0, 1, hours);
        x.days(7);
        return x;
    }

    private static void stopping() {
        owes(owing(0, 80), 0, 9, 40, 50, 0);
        owes(owing(100, 0), 0, 9, 40, 50, 0);
        owes(owing(10, 8), 8, 1, 40, 50, 0);
        owes(owing(19, 10), 19, 0, 30, 50, 0);
        owes(owing(99, 5), 49, 0, 0, 50, 0);
        owes(owing(100, 6), 60, 0, 0, 39, 0);
        owes(owing(50, 20), 100, 0, 0, 0, 1);
        owes(owing(50, 24), 120, 0, 0, 0, 21);
        owes(owing(50, 40), 129, 0, 0, 0, 30);
        owes(owing(33, 11), 36, 0, 13, 50, 0);
    }

    private static void owes(FirmTown x, int stopped, int fines, int arrears, int debt, int saved) {
        Check.due("stopped", x.row(1, 0, 2), stopped);
        Check.due("left", x.row(1, 0, 3), x.row(1, 0, 0) - stopped);
        Check.due("fines", x.of(0, 5), fines);
        Check.due("arrears", x.of(0, 6), arrears);
        Check.due("debt", x.of(0, 4), debt);
        Check.due("saved", x.of(0, 3), saved);
        Check.due("box", x.count(8), saved);
    }

    private static void lacks() {
        FirmTown x = new FirmTown();
        x.person(3, 30);
        x.post(0, 1);
        x.hours(0, 0, 61);
        x.hours(0, 1, 59);
        x.hours(0, 2, 59);
        x.days(21);
        Check.due("enough", x.row(0, 0, 4), 0);
        Check.due("just enough", x.row(1, 0, 4), 0);
        Check.due("too little", x.row(2, 0, 4), 1);
        Check.due("purse", x.of(0, 2), 0);
        Check.due("pay", x.row(2, 0, 5), 1);
        x.ends(0);
        x.days(7);
        Check.due("without a post", x.row(3, 0, 0), 0);
        Check.due("pay without a post", x.row(3, 0, 5), 0);
        Check.due("lacked", x.row(3, 0, 4), 1);
    }

    private static void rulesOfTheDay() {
        FirmTown x = home();
        Check.tell(x, 6, "rent 10;most 50;");
        Check.tell(x, 7, "rent 20;");
        x.hours(0, 0, 10);
        x.days(7);
        Check.due("of the last day", x.row(0, 0, 1), 10);
        Check.tell(x, 6, "rent 30;");
        x.days(7);
        Check.due("of the last from", x.row(1, 0, 1), 20);
        Check.tell(x, 8, "rent day;");
        x.days(7);
        Check.due("day", x.row(2, 0, 1), 20);
        Check.due("the row that was", x.row(0, 0, 1), 10);
    }

    private static void wordsAheadOfAll() {
        FirmTown x = home();
        Check.tell(x, 0, "rent 5+arrears;most 40 if arrears>0;");
        x.days(7);
        Check.due("rent", x.row(0, 0, 1), 5);
        x.hours(0, 1, 10);
        x.days(7);
        Check.due("rent by arrears", x.row(1, 0, 1), 10);
        Check.due("most by arrears ahead", x.row(1, 0, 2), 15);
        x.hours(0, 2, 10);
        x.days(7);
        Check.due("no arrears were ahead", x.row(2, 0, 1), 5);
        Check.due("all can be stopped", x.row(2, 0, 2), 5);
    }

    private static void soldHouse() {
        FirmTown x = home();
        Check.tell(x, 0, "rent 5;");
        x.days(7);
        x.bid(0, 0, 1);
        x.sold(0, 0);
        x.days(7);
        Check.due("house let", x.row(0, 0, 6), 0);
        Check.due("house sold", x.row(1, 0, 6), -1);
        Check.due("rent of a house sold", x.row(1, 0, 1), 0);
        Check.due("arrears", x.of(0, 6), 5);
    }

    private static void box() {
        FirmTown x = new FirmTown();
        x.person(1, 30);
        x.person(1, 30);
        x.post(0, 10);
        x.post(1, 10);
        x.club(0, 15);
        x.club(1, 15);
        x.holds(50);
        x.hours(0, 0, 10);
        x.hours(1, 0, 10);
        x.days(7);
        Check.due("box, rounded down each time", x.count(8), 14);
        x.holds(0);
        x.hours(0, 1, 10);
        x.days(7);
        Check.due("box holds nothing", x.count(8), 14);
        Check.due("saved", x.of(0, 3), 30);
    }
}
