/** Promises 18 to 21: THE STORE, SAVED coin, and a RUN. */
public final class StoreTest {
    public static void main(String[] args) {
        goods();
        buys();
        credit();
        dearer();
        draws();
        runs();
        Check.close("StoreTest");
    }

    private static void goods() {
        FirmTown x = new FirmTown();
        int[][] wrong = {{-1, 1, 1, 0}, {6, 1, 1, 0}, {0, 0, 1, 0}, {0, 1000, 1, 0},
            {0, 1, 0, 0}, {0, 1, 1000, 0}, {0, 1, 1, -1}, {0, 1, 1, 10000}};
        for (int[] g : wrong) {
            Check.due("good", x.good(g[0], g[1], g[2], g[3]), false);
        }
        Check.due("least", x.good(0, 1, 1, 0), true);
        Check.due("most", x.good(5, 999, 999, 9999), true);
    }

    /** A PERSON with 100 in PURSE. */
    private static FirmTown withPurse() {
        FirmTown x = new FirmTown();
        x.person(1, 30);
        x.post(0, 10);
        x.hours(0, 0, 12);
        x.days(7);
        return x;
    }

    private static void buys() {
        FirmTown x = withPurse();
        Check.due("no stock at first", x.buys(0, 3, 1), -2);
        x.good(3, 7, 5, 20);
        Check.due("no person", x.buys(1, 3, 1), -1);
        Check.due("good -1", x.buys(0, -1, 1), -1);
        Check.due("good 6", x.buys(0, 6, 1), -1);
        Check.due("n 0", x.buys(0, 3, 0), -1);
        Check.due("n 100", x.buys(0, 3, 100), -1);
        Check.due("more than stock", x.buys(0, 3, 21), -2);
        Check.due("above all", x.buys(0, 3, 15), -3);
        Check.due("from the purse", x.buys(0, 3, 14), 98);
        Check.due("purse", x.of(0, 2), 2);
        Check.due("debt", x.of(0, 4), 0);
        Check.due("stock is less", x.buys(0, 3, 7), -2);
        x.good(3, 2, 1, 1);
        Check.due("all of the purse", x.buys(0, 3, 1), 2);
        Check.due("no stock", x.buys(0, 3, 1), -2);
        x.good(4, 1, 1, 99);
        x.good(3, 1, 1, 99);
        Check.due("an empty purse", x.buys(0, 4, 1), -3);
        Check.due("the last good", x.buys(0, 5, 1), -2);
    }

    private static void credit() {
        FirmTown x = withPurse();
        Check.tell(x, 0, "credit 150 if debt<150;");
        Check.tell(x, 8, "credit 200;");
        x.good(0, 50, 50, 99);
        x.good(1, 1, 1, 99);
        Check.due("all is debt", x.buys(0, 0, 3), 150);
        Check.due("purse", x.of(0, 2), 100);
        Check.due("debt", x.of(0, 4), 150);
        Check.due("the purse goes first", x.buys(0, 0, 1), 50);
        Check.due("above credit", x.buys(0, 1, 51), -3);
        Check.due("no debt more", x.of(0, 4), 150);
        x.days(1);
        Check.due("the rule of today", x.buys(0, 1, 51), -3);
        x.good(1, 1, 1, 99);
        Check.due("the purse has it", x.buys(0, 1, 50), 50);
        Check.due("one above", x.buys(0, 0, 2), -3);
        Check.due("up to credit", x.buys(0, 0, 1), 50);
        Check.due("debt", x.of(0, 4), 200);
    }

    private static void dearer() {
        FirmTown x = withPurse();
        x.good(0, 10, 7, 99);
        x.good(1, 2, 9, 99);
        x.buys(0, 0, 3);
        Check.due("dearer", x.of(0, 12), 9);
        x.good(0, 10, 1, 0);
        Check.due("as it was then", x.of(0, 12), 9);
        x.buys(0, 0, 1);
        Check.due("refused", x.of(0, 12), 9);
        x.buys(0, 1, 2);
        Check.due("below 0", x.of(0, 12), -5);
    }

    /** Three who saved 40, 30 and 20, of which the box holds some hundredths. */
    private static FirmTown saved(int holds) {
        FirmTown x = new FirmTown();
        x.holds(holds);
        for (int i = 0; i < 3; i++) {
            x.person(1, 30);
            x.post(i, 10);
            x.club(i, 40 - 10 * i);
            x.hours(i, 0, 80);
        }
        x.days(7);
        return x;
    }

    private static void draws() {
        FirmTown x = saved(60);
        Check.due("box", x.count(8), 54);
        int purse = x.of(0, 2);
        Check.due("no person", x.draws(3), -1);
        Check.due("person -1", x.draws(-1), -1);
        Check.due("all", x.draws(0), 40);
        Check.due("purse", x.of(0, 2), purse + 40);
        Check.due("saved", x.of(0, 3), 0);
        Check.due("box", x.count(8), 14);
        Check.due("as far as it goes", x.draws(1), 14);
        Check.due("saved yet", x.of(1, 3), 16);
        Check.due("nothing", x.draws(2), 0);
        Check.due("saved yet", x.of(2, 3), 20);
        Check.due("nothing saved", x.draws(0), 0);
    }

    private static void runs() {
        FirmTown x = saved(60);
        Check.due("who has less", x.run(0), 2);
        Check.due("what lacks", x.run(1), 36);
        Check.due("what -1", x.run(-1), -1);
        Check.due("what 2", x.run(2), -1);
        Check.due("nothing was drawn", x.count(8), 54);
        x = saved(100);
        Check.due("nobody has less", x.run(0), 0);
        Check.due("nothing lacks", x.run(1), 0);
        x = saved(0);
        Check.due("all have less", x.run(0), 3);
        Check.due("all lacks", x.run(1), 90);
        x.person(1, 30);
        Check.due("who saved nothing lacks nothing", x.run(0), 3);
    }
}
