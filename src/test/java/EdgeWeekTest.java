/** The edges that promises 15 to 17 and the words about DAYS and WEEKS name. */
public final class EdgeWeekTest {
    private static final int LAST_WEEK = 1428;

    public static void main(String[] args) {
        hoursInAWeek();
        hoursOfWhom();
        weekOfHours();
        lastWeekOfHours();
        atMost400Tellings();
        lastTellingCounts();
        daysAtOnce();
        lastDay();
        lastDayOfItsWeek();
        rowsOfWhoWasThere();
        whatOfRows();
        lastRows();
        mostOfAWeek();
        hundredthsRoundedDown();
        stoppedInOrder();
        nothingToStop();
        rentAtItsBounds();
        clubAsFarAsItGoes();
        eatsAsFarAsItGoes();
        lackedByHeads();
        boxRoundedDownEachTime();
        leavesAheadOfTheClosing();
        Check.close("EdgeWeekTest");
    }

    /** A PERSON (1 HEAD) with a POST and a HOUSE. */
    private static FirmTown home(int pay, String rules) {
        FirmTown x = new FirmTown();
        x.person(1, 30);
        x.house(1, 0);
        x.post(0, pay);
        x.asks(0);
        x.give(0);
        Check.tell(x, 0, rules);
        return x;
    }

    /** HOURS (0 to 84). */
    private static void hoursInAWeek() {
        Edge.range("HOURS (0 to 84)", Edge.FALSE, 0, 84, n -> Edge.number(Towns.of(1, 0).hours(0, 0, n)));
        for (int hours : new int[] {0, 84}) {
            FirmTown x = home(3, "");
            x.hours(0, 0, 50);
            x.hours(0, 0, hours);
            x.days(7);
            Check.due("HOURS " + hours, x.row(0, 0, 0), 3 * hours);
        }
    }

    private static void hoursOfWhom() {
        Edge.range("a PERSON", Edge.FALSE, 0, 2, n -> Edge.number(Towns.of(3, 0).hours(n, 0, 5)));
    }

    /** False: the WEEK is CLOSED or beyond the last DAY's. */
    private static void weekOfHours() {
        for (int today : new int[] {0, 6, 7, 13, 14, 9995, 9996, 9999}) {
            Edge.range("a WEEK on " + today, Edge.FALSE, today / 7, LAST_WEEK, n -> {
                FirmTown x = Towns.of(1, 0);
                Towns.until(x, today);
                return Edge.number(x.hours(0, n, 5));
            });
        }
    }

    private static void lastWeekOfHours() {
        FirmTown x = home(2, "");
        x.hours(0, LAST_WEEK - 1, 70);
        x.hours(0, LAST_WEEK, 80);
        Towns.until(x, Towns.LAST_DAY);
        Check.due("told for the last week that is closed", x.row(LAST_WEEK - 1, 0, 0), 140);
        Check.due("the week ahead of it", x.row(LAST_WEEK - 2, 0, 0), 0);
    }

    /** 400 tellings at most. */
    private static void atMost400Tellings() {
        FirmTown x = home(1, "");
        Check.due("refused", x.hours(0, 0, 85), false);
        for (int i = 1; i <= 399; i++) {
            x.hours(0, i % 3, i % 80);
        }
        Check.due("told", x.count(5), 399);
        Check.due("the 400th", x.hours(0, 0, 77), true);
        Check.due("the 401st", x.hours(0, 0, 78), false);
        Check.due("told", x.count(5), 400);
        x.days(21);
        Check.due("a closed week frees none", x.hours(0, 3, 5), false);
        Check.due("the 400th counts", x.row(0, 0, 0), 77);
        Check.due("an earlier one", x.row(1, 0, 0), 397 % 80);
        Check.due("an earlier one", x.row(2, 0, 0), 398 % 80);
    }

    /** Told TODAY, what was told last counts. */
    private static void lastTellingCounts() {
        FirmTown x = home(1, "");
        x.hours(0, 1, 60);
        x.hours(0, 0, 50);
        x.hours(0, 1, 61);
        x.days(6);
        x.hours(0, 0, 40);
        x.days(1);
        x.hours(0, 2, 30);
        x.days(6);
        x.hours(0, 1, 20);
        x.days(8);
        Check.due("told last on the last day", x.row(0, 0, 0), 40);
        Check.due("told last", x.row(1, 0, 0), 20);
        Check.due("told once, a week ahead", x.row(2, 0, 0), 30);
    }

    /** Promise 16: n DAYS (0 to 60). */
    private static void daysAtOnce() {
        Edge.range("n DAYS (0 to 60)", Edge.NONE, 0, 60, n -> new FirmTown().days(n));
        FirmTown x = new FirmTown();
        Check.due("0", x.days(0), 0);
        Check.due("60", x.days(60), 60);
        Check.due("none goes by in 0", x.days(0), 60);
    }

    /** Promise 16: NONE: it would be above 9999. */
    private static void lastDay() {
        FirmTown x = Towns.of(1, 0);
        Towns.until(x, 9940);
        Check.due("60 to 10000", x.days(60), -1);
        Check.due("today", x.count(2), 9940);
        Check.due("59 to 9999", x.days(59), 9999);
        Check.due("1 to 10000", x.days(1), -1);
        Check.due("0 on the last day", x.days(0), 9999);
        Check.due("today", x.count(2), 9999);
        FirmTown y = new FirmTown();
        Towns.until(y, 9939);
        Check.due("60 to 9999", y.days(60), 9999);
    }

    /** If it is the last DAY of its WEEK, that is CLOSED. */
    private static void lastDayOfItsWeek() {
        FirmTown x = Towns.of(1, 0);
        for (int day = 0; day < 15; day++) {
            Check.due("closed weeks on " + day, x.count(12), day / 7);
            x.days(1);
        }
        Towns.until(x, 9995);
        Check.due("closed weeks on 9995", x.count(12), 1427);
        x.days(1);
        Check.due("closed weeks on 9996", x.count(12), 1428);
        x.days(3);
        Check.due("the last week is never closed", x.count(12), 1428);
    }

    /** ROWS of each CLOSED WEEK and PERSON that was there. */
    private static void rowsOfWhoWasThere() {
        FirmTown x = Towns.of(1, 0);
        x.days(6);
        x.person(2, 30);
        x.days(1);
        x.person(2, 30);
        Check.due("who came on the last day", x.row(0, 1, 4), 1);
        Check.dueNoRow(x, 0, 2, 4);
        Check.dueNoRow(x, 0, 3, 4);
        Check.dueNoRow(x, 0, -1, 4);
        x.days(6);
        Check.dueNoRow(x, 1, 2, 4);
        x.days(1);
        Check.due("in the next week", x.row(1, 2, 4), 1);
        Check.dueNoRow(x, 0, 2, 4);
        FirmTown full = Towns.of(60, 0);
        full.post(59, 7);
        full.hours(59, 0, 3);
        full.days(7);
        Check.due("the sixtieth", full.row(0, 59, 0), 21);
        Check.due("the first", full.row(0, 0, 0), 0);
        Check.dueNoRow(full, 0, 60, 0);
    }

    /** Promise 17: what 0 to 6. NoSuchElementException: there is none, another what. */
    private static void whatOfRows() {
        FirmTown x = Towns.of(2, 0);
        x.days(14);
        Edge.range("what of a ROW", Edge.THREW, 0, 6, n -> x.row(0, 0, n));
        Edge.range("a WEEK", Edge.THREW, 0, 1, n -> x.row(n, 0, 0));
        Edge.range("a PERSON", Edge.THREW, 0, 1, n -> x.row(0, n, 0));
        Check.due("HOUSE of none", x.row(0, 0, 6), -1);
    }

    private static void lastRows() {
        FirmTown x = home(5, "rent 3;");
        Towns.until(x, 9990);
        x.hours(0, 1427, 84);
        x.days(5);
        Check.dueNoRow(x, 1427, 0, 0);
        x.days(1);
        int[] due = {420, 3, 420, 0, 1, 5, 0};
        for (int what = 0; what < due.length; what++) {
            Check.due("the last row's " + what, x.row(1427, 0, what), due[what]);
        }
        x.days(3);
        Check.dueNoRow(x, 1428, 0, 0);
    }

    private static void mostOfAWeek() {
        FirmTown x = home(200, "");
        x.hours(0, 0, 84);
        x.days(7);
        Check.due("EARNED", x.row(0, 0, 0), 16800);
        Check.due("LEFT", x.row(0, 0, 3), 16800);
        Check.due("PURSE", x.of(0, 2), 16780);
        FirmTown y = home(200, "rent 1000*1000;most 99;");
        y.hours(0, 0, 84);
        y.days(7);
        Check.due("STOPPED", y.row(0, 0, 2), 16632);
        Check.due("LEFT", y.row(0, 0, 3), 168);
        Check.due("ARREARS", y.of(0, 6), 1000000 - 16632);
    }

    /** most hundredths of EARNED, rounded down, at the most. */
    private static void hundredthsRoundedDown() {
        int[][] mostHoursStopped = {{0, 84, 0}, {1, 1, 0}, {1, 84, 0}, {2, 49, 0}, {2, 50, 1}, {2, 51, 1},
            {50, 1, 0}, {50, 2, 1}, {50, 3, 1}, {99, 1, 0}, {99, 2, 1}, {99, 84, 83}, {100, 1, 1}, {100, 84, 84},
            {33, 3, 0}, {34, 3, 1}, {100, 0, 0}};
        for (int[] c : mostHoursStopped) {
            FirmTown x = home(1, "rent 500;most " + c[0] + ";");
            x.hours(0, 0, c[1]);
            x.days(7);
            Check.due(c[0] + " hundredths of " + c[1], x.row(0, 0, 2), c[2]);
            Check.due("LEFT", x.row(0, 0, 3), c[1] - c[2]);
            Check.due("ARREARS", x.of(0, 6), 500 - c[2]);
        }
    }

    /** Owes 7 of FINES, 5 (with the WEEK's RENT) of ARREARS, 3 of DEBT, and has 2 of CLUB. */
    private static FirmTown owing(int earned) {
        FirmTown x = home(1, "fine a 7;rent 5;credit 3;");
        x.seen(0, 0);
        x.fines(0);
        x.good(0, 3, 1, 1);
        x.buys(0, 0, 1);
        x.club(0, 2);
        x.hours(0, 0, earned);
        x.days(7);
        return x;
    }

    /** In this order: FINES, ARREARS, DEBT, CLUB (as far as it goes). */
    private static void stoppedInOrder() {
        for (int earned = 0; earned <= 20; earned++) {
            FirmTown x = owing(earned);
            Check.due("STOPPED of " + earned, x.row(0, 0, 2), Math.min(earned, 17));
            Check.due("FINES by " + earned, x.of(0, 5), 7 - Math.min(earned, 7));
            Check.due("ARREARS by " + earned, x.of(0, 6), 5 - Math.min(Math.max(earned - 7, 0), 5));
            Check.due("DEBT by " + earned, x.of(0, 4), 3 - Math.min(Math.max(earned - 12, 0), 3));
            Check.due("SAVED by " + earned, x.of(0, 3), Math.min(Math.max(earned - 15, 0), 2));
            Check.due("LEFT of " + earned, x.row(0, 0, 3), Math.max(earned - 17, 0));
        }
    }

    private static void nothingToStop() {
        FirmTown x = home(1, "");
        x.hours(0, 0, 84);
        x.days(7);
        Check.due("STOPPED", x.row(0, 0, 2), 0);
        x.days(7);
        Check.due("EARNED without HOURS", x.row(1, 0, 0), 0);
        FirmTown y = Towns.of(1, 0);
        y.hours(0, 0, 84);
        y.days(7);
        Check.due("EARNED without a POST", y.row(0, 0, 0), 0);
        Check.due("PAY without a POST", y.row(0, 0, 5), 0);
    }

    private static void rentAtItsBounds() {
        String[] sums = {"0-1", "0", "1", "1000*1000", "1000*1000+1"};
        int[] due = {0, 0, 1, 1000000, 1000000};
        for (int i = 0; i < sums.length; i++) {
            FirmTown x = home(1, "rent " + sums[i] + ";");
            x.days(14);
            Check.due("RENT by " + sums[i], x.row(0, 0, 1), due[i]);
            Check.due("ARREARS by " + sums[i], x.of(0, 6), 2 * due[i]);
        }
        FirmTown none = Towns.of(1, 0);
        Check.tell(none, 0, "rent 5;");
        none.days(7);
        Check.due("RENT without a HOUSE", none.row(0, 0, 1), 0);
        Check.due("ARREARS without a HOUSE", none.of(0, 6), 0);
    }

    private static void clubAsFarAsItGoes() {
        int[][] clubEarnedSaved = {{0, 84, 0}, {10, 9, 9}, {10, 10, 10}, {10, 11, 10}, {9999, 84, 84}, {1, 0, 0}};
        for (int[] c : clubEarnedSaved) {
            FirmTown x = home(1, "");
            x.club(0, c[0]);
            x.hours(0, 0, c[1]);
            x.days(7);
            Check.due("SAVED of CLUB " + c[0] + " by " + c[1], x.of(0, 3), c[2]);
            Check.due("BOX", x.count(8), c[2]);
            Check.due("LEFT", x.row(0, 0, 3), c[1] - c[2]);
        }
    }

    /** 20 times HEADS from PURSE, as far as it goes; it LACKED, if not all. */
    private static void eatsAsFarAsItGoes() {
        int[][] earnedPurseLacked = {{0, 0, 1}, {1, 0, 1}, {19, 0, 1}, {20, 0, 0}, {21, 1, 0}};
        for (int[] c : earnedPurseLacked) {
            FirmTown x = home(1, "");
            x.hours(0, 0, c[0]);
            x.days(7);
            Check.due("PURSE of " + c[0], x.of(0, 2), c[1]);
            Check.due("LACKED of " + c[0], x.row(0, 0, 4), c[2]);
        }
    }

    private static void lackedByHeads() {
        for (int hours : new int[] {79, 80, 81}) {
            FirmTown x = new FirmTown();
            x.person(12, 30);
            x.post(0, 3);
            x.hours(0, 0, hours);
            x.days(7);
            Check.due("LACKED of 12 HEADS by " + 3 * hours, x.row(0, 0, 4), hours < 80 ? 1 : 0);
            Check.due("PURSE", x.of(0, 2), Math.max(3 * hours - 240, 0));
        }
    }

    /** BOX: SAVED coin comes there by HOLDS hundredths, rounded down each time. */
    private static void boxRoundedDownEachTime() {
        int[][] clubHoldsBox = {{1, 99, 0}, {1, 100, 3}, {2, 50, 3}, {3, 50, 3}, {3, 33, 0}, {3, 34, 3}, {84, 99, 249},
            {84, 0, 0}, {84, 1, 0}, {84, 2, 3}, {50, 2, 3}, {49, 2, 0}};
        for (int[] c : clubHoldsBox) {
            FirmTown x = home(1, "");
            x.holds(c[1]);
            x.club(0, c[0]);
            for (int week = 0; week < 3; week++) {
                x.hours(0, week, 84);
            }
            x.days(21);
            Check.due("BOX of three times " + c[0] + " by " + c[1], x.count(8), c[2]);
            Check.due("SAVED", x.of(0, 3), 3 * c[0]);
        }
    }

    /** (a) who must leave by it leaves, ahead of (b). */
    private static void leavesAheadOfTheClosing() {
        for (int leave : new int[] {5, 6, 7}) {
            FirmTown x = home(10, "rent 8;leave " + leave + ";");
            x.ends(0);
            x.days(7);
            Check.due("RENT of who leaves on " + leave, x.row(0, 0, 1), leave <= 6 ? 0 : 8);
            Check.due("HOUSE of who leaves on " + leave, x.row(0, 0, 6), leave <= 6 ? -1 : 0);
        }
    }
}
