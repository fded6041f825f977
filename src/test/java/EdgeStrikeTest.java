/** The edges that promises 33 to 35 and the words about a STRIKE and OTHER RULES name. */
public final class EdgeStrikeTest {
    public static void main(String[] args) {
        fundOfAStrike();
        ofWhom();
        atMost52Weeks();
        justEnough();
        fundByHeads();
        fullTown();
        onlyHomesWithAPost();
        rentOfAStrike();
        rentAtItsBound();
        weeksThatHomesLast();
        homesOfATown();
        otherOfWhom();
        noRows();
        stoppedAsFarAsThatGoes();
        asIfInForceFromDay0();
        ofEachRow();
        asManyRowsAsCanBe();
        houseOfTheRow();
        Check.close("EdgeStrikeTest");
    }

    /** One PERSON with 1 HEAD and a POST. */
    private static FirmTown home() {
        FirmTown x = new FirmTown();
        x.person(1, 30);
        x.house(1, 0);
        x.post(0, 1);
        return x;
    }

    private static FirmTown housed(String rules) {
        FirmTown x = home();
        x.asks(0);
        x.give(0);
        Check.tell(x, 0, rules);
        return x;
    }

    /** A FUND (0 to 1000000). */
    private static void fundOfAStrike() {
        Edge.range("lasts: a FUND", Edge.NONE, 0, 1000000, n -> home().lasts(0, n));
        Edge.range("lasting: a FUND", Edge.NONE, 0, 1000000, n -> home().lasting(0, n));
    }

    /** Promise 33: NONE: no such ones, no POST. */
    private static void ofWhom() {
        Edge.range("a PERSON", Edge.NONE, 0, 1, n -> {
            FirmTown x = home();
            x.person(1, 30);
            x.post(1, 1);
            return x.lasts(n, 5);
        });
        FirmTown x = home();
        x.ends(0);
        Check.due("no POST", x.lasts(0, 5), -1);
        Check.due("no home", x.lasting(0, 5), 0);
    }

    /** 52 at most. */
    private static void atMost52Weeks() {
        int[][] fundWeeks = {{0, 0}, {19, 0}, {20, 1}, {39, 1}, {40, 2}, {1019, 50}, {1020, 51}, {1039, 51},
            {1040, 52}, {1059, 52}, {1060, 52}, {1000000, 52}};
        for (int[] c : fundWeeks) {
            Check.due("lasts by " + c[0], home().lasts(0, c[0]), c[1]);
        }
    }

    /** PURSE, SAVED, and FUND; each WEEK 20 times HEADS. */
    private static void justEnough() {
        FirmTown x = home();
        x.club(0, 13);
        x.hours(0, 0, 70);
        x.days(7);
        Check.due("PURSE", x.of(0, 2), 37);
        Check.due("SAVED", x.of(0, 3), 13);
        Check.due("50", x.lasts(0, 0), 2);
        Check.due("59", x.lasts(0, 9), 2);
        Check.due("60", x.lasts(0, 10), 3);
        x.draws(0);
        Check.due("SAVED or in PURSE", x.lasts(0, 9), 2);
        Check.due("SAVED or in PURSE", x.lasts(0, 10), 3);
    }

    /** FUND times its HEADS by HEADS of all such, rounded down. */
    private static void fundByHeads() {
        FirmTown x = new FirmTown();
        x.person(1, 30);
        x.person(2, 30);
        x.post(0, 1);
        x.post(1, 1);
        Check.due("19 of 59", x.lasts(0, 59), 0);
        Check.due("39 of 59", x.lasts(1, 59), 0);
        Check.due("20 of 60", x.lasts(0, 60), 1);
        Check.due("40 of 60", x.lasts(1, 60), 1);
        Check.due("20 of 61", x.lasts(0, 61), 1);
        Check.due("40 of 61", x.lasts(1, 61), 1);
        Check.due("39 of 119", x.lasts(0, 119), 1);
        Check.due("40 of 120", x.lasts(0, 120), 2);
    }

    private static void fullTown() {
        FirmTown x = new FirmTown();
        for (int i = 0; i < 60; i++) {
            x.person(12, 30);
            x.post(i, 1);
        }
        Check.due("12479 for each", x.lasts(59, 748799), 51);
        Check.due("12480 for each", x.lasts(59, 748800), 52);
        Check.due("all", x.lasting(52, 748800), 60);
        Check.due("none", x.lasting(52, 748799), 0);
        Check.due("all", x.lasting(52, 1000000), 60);
    }

    /** Each home (PERSON with a POST). */
    private static void onlyHomesWithAPost() {
        FirmTown x = home();
        x.person(12, 30);
        Check.due("all of the FUND", x.lasts(0, 20), 1);
        x.post(1, 1);
        Check.due("a part of the FUND", x.lasts(0, 20), 0);
        Check.due("a part of the FUND", x.lasts(0, 260), 1);
        Check.due("a part of the FUND", x.lasts(0, 259), 0);
        x.ends(1);
        Check.due("all of it again", x.lasts(0, 20), 1);
        Check.due("the home alone", x.lasting(0, 20), 1);
    }

    /** Its RENT by THE RULE TODAY (none of a HOUSE that is SOLD). */
    private static void rentOfAStrike() {
        FirmTown x = housed("rent 30;");
        Check.tell(x, 1, "rent 31;");
        Check.due("49", x.lasts(0, 49), 0);
        Check.due("50", x.lasts(0, 50), 1);
        x.days(1);
        Check.due("50 of 51", x.lasts(0, 50), 0);
        Check.due("51", x.lasts(0, 51), 1);
        x.bid(0, 0, 1);
        x.sold(0, 0);
        Check.due("its own HOUSE", x.lasts(0, 20), 1);
        FirmTown none = home();
        Check.tell(none, 0, "rent 30;");
        Check.due("no HOUSE", none.lasts(0, 20), 1);
    }

    private static void rentAtItsBound() {
        Check.due("the greatest RENT", housed("rent 1000*1000;").lasts(0, 1000000), 0);
        Check.due("a RENT of 999980", housed("rent 1000*1000-20;").lasts(0, 1000000), 1);
        Check.due("a RENT of 999981", housed("rent 1000*1000-19;").lasts(0, 1000000), 0);
        Check.due("no RENT below 0", housed("rent 0-19;").lasts(0, 19), 0);
    }

    /** Promise 34: NONE: others (n 0 to 52). */
    private static void weeksThatHomesLast() {
        Edge.range("n (0 to 52)", Edge.NONE, 0, 52, n -> home().lasting(n, 1000000));
        FirmTown x = home();
        Check.due("0 weeks", x.lasting(0, 0), 1);
        Check.due("1 week of 19", x.lasting(1, 19), 0);
        Check.due("1 week of 20", x.lasting(1, 20), 1);
        Check.due("51 weeks of 1039", x.lasting(51, 1039), 1);
        Check.due("52 weeks of 1039", x.lasting(52, 1039), 0);
        Check.due("52 weeks of 1040", x.lasting(52, 1040), 1);
    }

    private static void homesOfATown() {
        FirmTown x = new FirmTown();
        Check.due("no home", x.lasting(0, 1000000), 0);
        for (int i = 0; i < 3; i++) {
            x.person(1, 30);
            x.post(i, 1);
            x.hours(i, 0, 40 + 20 * i);
        }
        x.days(7);
        int[] due = {3, 3, 2, 1, 0};
        for (int n = 0; n < due.length; n++) {
            Check.due("homes for " + n, x.lasting(n, 0), due[n]);
        }
    }

    /** Promise 35: NONE: no such ones. */
    private static void otherOfWhom() {
        FirmTown x = housed("rent 5;");
        Check.tell(x, 0, "");
        x.person(2, 30);
        Edge.range("a TEXT", Edge.NONE, 0, 1, n -> x.other(n, 0));
        Edge.range("a PERSON", Edge.NONE, 0, 1, n -> x.other(0, n));
        Check.due("no TEXT", home().other(0, 0), -1);
    }

    private static void noRows() {
        FirmTown x = housed("rent 5;");
        Check.due("no WEEK", x.other(0, 0), 0);
        x.days(6);
        Check.due("no CLOSED WEEK", x.other(0, 0), 0);
        x.days(1);
        Check.due("a ROW without EARNED", x.other(0, 0), 0);
        x.person(2, 30);
        Check.due("no ROW", x.other(0, 1), 0);
    }

    /** RENT of that WEEK alone, as far as that (most) goes. */
    private static void stoppedAsFarAsThatGoes() {
        String[] rules = {"rent 40;most 39;", "rent 40;most 40;", "rent 40;most 41;", "rent 40;most 0;",
            "rent 40;most 100;", "rent 40;", "most 0;", "most 100;", "rent 79;", "rent 80;", "rent 81;",
            "rent 1000*1000;", "rent 0-5;", "rent 40;most 1;", "rent 40;most 2;"};
        int[] due = {49, 48, 48, 80, 40, 40, 80, 80, 1, 0, 0, 0, 80, 80, 79};
        for (int i = 0; i < rules.length; i++) {
            FirmTown x = housed("");
            Check.tell(x, 0, rules[i]);
            x.hours(0, 0, 80);
            x.days(7);
            Check.due(rules[i], x.other(1, 0), due[i]);
            Check.due("the ROW itself", x.row(0, 0, 3), due[i]);
        }
    }

    /** As if in force from DAY 0, in place of all. */
    private static void asIfInForceFromDay0() {
        FirmTown x = housed("rent 10;most 50;");
        Check.tell(x, 9999, "rent 7;");
        x.hours(0, 0, 80);
        x.days(7);
        Check.tell(x, 9999, "strike rent;strike most;rent 6;");
        Check.due("from the last DAY on", x.other(1, 0), 73);
        Check.due("told later", x.other(2, 0), 74);
        Check.due("what was in force", x.other(0, 0), 70);
    }

    /** All together, for a PERSON; WORDS as of that WEEK's last DAY. */
    private static void ofEachRow() {
        FirmTown x = housed("rent day;");
        Check.tell(x, 0, "rent 1+weeks+saved+debt+arrears;");
        x.club(0, 5);
        for (int week = 0; week < 4; week++) {
            x.hours(0, week, 80);
        }
        x.days(27);
        Check.due("three WEEKS", x.other(0, 0), 240 - 6 - 13 - 20);
        x.days(1);
        Check.due("four WEEKS", x.other(0, 0), 320 - 6 - 13 - 20 - 27);
        Check.due("weeks, saved, debt, arrears 0", x.other(1, 0), 316);
    }

    private static void asManyRowsAsCanBe() {
        FirmTown x = new FirmTown();
        x.person(1, 30);
        x.post(0, 200);
        Check.tell(x, 0, "");
        for (int week = 0; week < 400; week++) {
            x.hours(0, week, 84);
        }
        Towns.until(x, 2800);
        Check.due("400 WEEKS", x.other(0, 0), 6720000);
    }

    /** By the ROW's HOUSE, PAY. */
    private static void houseOfTheRow() {
        FirmTown x = housed("");
        Check.tell(x, 0, "rent rooms+pay;");
        x.hours(0, 0, 80);
        x.hours(0, 1, 80);
        x.hours(0, 2, 80);
        x.days(7);
        x.bid(0, 0, 1);
        x.sold(0, 0);
        x.days(7);
        Check.due("LET, then SOLD", x.other(1, 0), 78 + 80);
        x.ends(0);
        x.post(0, 2);
        x.days(7);
        Check.due("another PAY", x.other(1, 0), 78 + 80 + 160);
    }
}
