/** Promises 33 to 35: how long homes last in a STRIKE, and what OTHER RULES would have left. */
public final class StrikeTest {
    public static void main(String[] args) {
        lasts();
        rentOfHomes();
        lasting();
        other();
        otherWords();
        otherStrikes();
        Check.close("StrikeTest");
    }

    private static void lasts() {
        FirmTown x = new FirmTown();
        x.person(1, 30);
        x.person(2, 30);
        x.person(12, 30);
        x.post(0, 10);
        x.post(1, 10);
        Check.due("no post", x.lasts(2, 5), -1);
        Check.due("no person", x.lasts(3, 5), -1);
        Check.due("person -1", x.lasts(-1, 5), -1);
        Check.due("fund -1", x.lasts(0, -1), -1);
        Check.due("fund 1000001", x.lasts(0, 1000001), -1);
        Check.due("nothing", x.lasts(0, 0), 0);
        Check.due("a third, rounded down", x.lasts(0, 59), 0);
        Check.due("a third", x.lasts(0, 60), 1);
        Check.due("two thirds", x.lasts(1, 60), 1);
        Check.due("two thirds, rounded down", x.lasts(1, 59), 0);
        Check.due("52 at most", x.lasts(0, 1000000), 52);
        Check.due("51", x.lasts(0, 3 * 20 * 52 - 1), 51);
        Check.due("52", x.lasts(0, 3 * 20 * 52), 52);
        x.club(0, 30);
        x.hours(0, 0, 10);
        x.days(7);
        Check.due("purse and saved", x.lasts(0, 0), 4);
        x.holds(0);
        Check.due("heads of all with a post", x.lasts(0, 59), 4);
        Check.due("heads of all with a post", x.lasts(0, 60), 5);
    }

    private static void rentOfHomes() {
        FirmTown x = new FirmTown();
        x.person(1, 30);
        x.house(2, 1);
        x.post(0, 10);
        Check.tell(x, 0, "rent 30;");
        Check.tell(x, 1, "rent 80;");
        Check.due("no house", x.lasts(0, 100), 5);
        x.asks(0);
        x.give(0);
        Check.due("rent", x.lasts(0, 100), 2);
        x.days(1);
        Check.due("rent of today", x.lasts(0, 100), 1);
        Check.due("rent of today", x.lasts(0, 99), 0);
        x.bid(0, 0, 9);
        x.sold(0, 0);
        Check.due("no rent of a sold house", x.lasts(0, 99), 4);
    }

    private static void lasting() {
        FirmTown x = new FirmTown();
        Check.due("no homes", x.lasting(0, 0), 0);
        for (int i = 0; i < 4; i++) {
            x.person(i + 1, 30);
        }
        x.post(0, 10);
        x.post(1, 10);
        x.post(3, 10);
        Check.due("n -1", x.lasting(-1, 0), -1);
        Check.due("n 53", x.lasting(53, 0), -1);
        Check.due("fund -1", x.lasting(0, -1), -1);
        Check.due("fund 1000001", x.lasting(0, 1000001), -1);
        Check.due("homes", x.lasting(0, 0), 3);
        Check.due("none lasts", x.lasting(1, 0), 0);
        Check.due("all last", x.lasting(52, 1000000), 3);
        x.hours(0, 0, 10);
        x.hours(1, 0, 10);
        x.days(7);
        Check.due("one week", x.lasting(1, 0), 2);
        Check.due("two weeks", x.lasting(2, 0), 1);
        Check.due("four weeks", x.lasting(4, 0), 1);
        Check.due("five weeks", x.lasting(5, 0), 0);
        Check.due("five weeks by a fund", x.lasting(5, 140), 1);
        Check.due("one week by a fund", x.lasting(1, 140), 3);
    }

    private static void other() {
        FirmTown x = new FirmTown();
        x.person(1, 30);
        x.person(1, 30);
        x.house(2, 1);
        x.post(0, 10);
        x.asks(0);
        x.give(0);
        Check.tell(x, 9000, "rent 30;most 10;");
        Check.tell(x, 0, "rent 50;");
        Check.tell(x, 0, "");
        Check.due("no rows", x.other(0, 0), 0);
        x.hours(0, 0, 20);
        x.hours(0, 1, 40);
        x.hours(0, 2, 4);
        x.days(21);
        Check.due("no text", x.other(3, 0), -1);
        Check.due("text -1", x.other(-1, 0), -1);
        Check.due("no person", x.other(0, 2), -1);
        Check.due("person -1", x.other(0, -1), -1);
        Check.due("stopped up to most", x.other(0, 0), 180 + 370 + 36);
        Check.due("stopped for rent", x.other(1, 0), 150 + 350);
        Check.due("no rent", x.other(2, 0), 640);
        Check.due("no post", x.other(0, 1), 0);
        x.person(1, 30);
        Check.due("who came later", x.other(0, 2), 0);
        x.post(2, 7);
        x.hours(2, 3, 10);
        x.days(7);
        Check.due("without a house", x.other(0, 2), 70);
    }

    private static void otherWords() {
        FirmTown x = new FirmTown();
        x.person(3, 40);
        x.house(2, 1);
        x.house(4, 3);
        x.post(0, 10);
        x.asks(0);
        x.give(0);
        Check.tell(x, 0, "rent rooms*100+size*50+pay+day+heads*7+age;");
        Check.tell(x, 0, "rent 1+weeks+saved+debt+arrears;");
        Check.tell(x, 0, "rent 9999;most 8 if day=6;most 9 if day=13;");
        Check.tell(x, 0, "rent pay+rooms*10+size;");
        x.club(0, 9);
        x.hours(0, 0, 80);
        x.hours(0, 1, 80);
        x.days(14);
        Check.due("words", x.other(0, 0), 1600 - 2 * (200 + 50 + 10 + 21 + 40) - 6 - 13);
        Check.due("weeks, saved, debt, arrears are 0", x.other(1, 0), 1598);
        Check.due("most by the day", x.other(2, 0), 1600 - 8 * 8 - 9 * 8);
        x.ends(0);
        x.days(10);
        x.post(0, 90);
        x.asks(0);
        x.give(1);
        Check.due("the house and pay of the row", x.other(3, 0), 1600 - 2 * 31);
        x.bid(0, 1, 3);
        x.sold(1, 0);
        x.hours(0, 3, 10);
        x.days(7);
        Check.due("a house that was sold", x.other(3, 0), 1600 - 2 * 31 + 900);
    }

    private static void otherStrikes() {
        FirmTown x = new FirmTown();
        x.person(3, 40);
        x.house(2, 1);
        x.post(0, 10);
        x.asks(0);
        x.give(0);
        x.hours(0, 0, 80);
        x.days(7);
        Check.tell(x, 0, "rent 30;rent 40 if day>6;strike rent;");
        Check.tell(x, 0, "strike rent;");
        Check.due("its strikes take away nothing of it", x.other(0, 0), 770);
        Check.due("of others it knows nothing", x.other(1, 0), 800);
    }
}
