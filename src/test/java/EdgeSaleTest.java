/** The edges that promises 36 to 39 and the words about SALES name. */
public final class EdgeSaleTest {
    public static void main(String[] args) {
        bidsOfPence();
        bidsOfWhomForWhat();
        laterBids();
        oneToSevenHouses();
        bitsOfHouses();
        soldAmongThem();
        sumsAtTheirBounds();
        buyersOfWhich();
        onePersonOneHouse();
        oneHouseOnePerson();
        leastPersonFirst();
        noneBehindAll();
        soldToWhom();
        soldForItsBid();
        whoIsLetIt();
        needntLeave();
        severalHouses();
        Check.close("EdgeSaleTest");
    }

    /** BIDS (1 to 100000; 0 none). */
    private static void bidsOfPence() {
        Edge.range("a BID", Edge.FALSE, 0, 100000, n -> Edge.number(Towns.of(1, 1).bid(0, 0, n)));
        for (int pence : new int[] {0, 1, 99999, 100000}) {
            FirmTown x = Towns.of(1, 1);
            x.bid(0, 0, pence);
            Check.due("sum of a BID of " + pence, x.sells(1), pence);
            Check.due("its buyer", x.buyer(1, 0), pence == 0 ? -1 : 0);
            Check.due("SOLD for it", x.sold(0, 0), pence > 0);
        }
    }

    /** Promise 36: False: no such ones, the HOUSE is SOLD. */
    private static void bidsOfWhomForWhat() {
        Edge.range("a PERSON", Edge.FALSE, 0, 2, n -> Edge.number(Towns.of(3, 4).bid(n, 0, 1)));
        Edge.range("a HOUSE", Edge.FALSE, 0, 3, n -> Edge.number(Towns.of(3, 4).bid(0, n, 1)));
        FirmTown x = Towns.of(60, 30);
        Check.due("the last of both", x.bid(59, 29, 5), true);
        Check.due("sum", x.sells(1 << 29), 5);
        Check.due("buyer", x.buyer(1 << 29, 29), 59);
        x.sold(29, 59);
        Check.due("SOLD", x.bid(0, 29, 5), false);
        Check.due("SOLD", x.bid(59, 29, 0), false);
    }

    private static void laterBids() {
        FirmTown x = Towns.of(2, 1);
        x.bid(0, 0, 9);
        x.bid(1, 0, 8);
        Check.due("the greater", x.buyer(1, 0), 0);
        x.bid(0, 0, 7);
        Check.due("the later one counts", x.sells(1), 8);
        x.bid(1, 0, 0);
        Check.due("a BID is taken back", x.sells(1), 7);
        Check.due("not SOLD without", x.sold(0, 1), false);
        x.bid(0, 0, 0);
        Check.due("no BID", x.sells(1), 0);
        Check.due("to nobody", x.buyer(1, 0), -1);
    }

    /** THE BEST of 1 to 7 HOUSES. */
    private static void oneToSevenHouses() {
        FirmTown x = Towns.of(1, 30);
        for (int n = 0; n <= 30; n++) {
            boolean some = n >= 1 && n <= 7;
            Check.due("the first " + n, x.sells((1 << n) - 1), some ? 0 : -1);
            int last = n == 0 ? 0 : ((1 << n) - 1) << 30 - n;
            Check.due("the last " + n, x.sells(last), some ? 0 : -1);
            Check.due("buyer of the first " + n, x.buyer((1 << n) - 1, 0), -1);
        }
        Check.due("all bits", x.sells(-1), -1);
        Check.due("far from one another", x.sells(1 | 1 << 5 | 1 << 11 | 1 << 17 | 1 << 23 | 1 << 28 | 1 << 29), 0);
    }

    /** NONE: no such ones. */
    private static void bitsOfHouses() {
        FirmTown full = Towns.of(1, 30);
        for (int i = 0; i < 32; i++) {
            Check.due("HOUSE " + i + " of thirty", full.sells(1 << i), i < 30 ? 0 : -1);
            Check.due("with the first", full.sells(1 | 1 << i), i < 30 ? 0 : -1);
        }
        FirmTown few = Towns.of(1, 3);
        few.bid(0, 0, 4);
        for (int i = 0; i < 32; i++) {
            Check.due("HOUSE " + i + " of three", few.sells(1 << i), i == 0 ? 4 : i < 3 ? 0 : -1);
            Check.due("buyer", few.buyer(1 | 1 << i, 0), i < 3 ? 0 : -1);
        }
        Check.due("a negative number", few.sells(Integer.MIN_VALUE | 1), -1);
    }

    /** None SOLD. */
    private static void soldAmongThem() {
        FirmTown x = Towns.of(2, 3);
        for (int house = 0; house < 3; house++) {
            x.bid(0, house, 5);
            x.bid(1, house, 5);
        }
        x.sold(1, 0);
        Check.due("the SOLD one", x.sells(2), -1);
        Check.due("among others", x.sells(7), -1);
        Check.due("the others", x.sells(5), 10);
        Check.due("buyer among others", x.buyer(7, 0), -1);
        Check.due("who bought one can buy another", x.buyer(5, 0), 0);
    }

    private static void sumsAtTheirBounds() {
        FirmTown x = Towns.of(60, 30);
        for (int i = 0; i < 7; i++) {
            x.bid(53 + i, 23 + i, 100000);
        }
        int last = 127 << 23;
        Check.due("seven of the most", x.sells(last), 700000);
        for (int i = 0; i < 7; i++) {
            Check.due("buyer", x.buyer(last, 23 + i), 53 + i);
        }
        for (int i = 0; i < 7; i++) {
            x.bid(i, 23 + i, 100000);
        }
        Check.due("of like sums", x.sells(last), 700000);
        for (int i = 0; i < 7; i++) {
            Check.due("the least PERSON", x.buyer(last, 23 + i), i);
        }
        for (int i = 0; i < 7; i++) {
            x.bid(53 + i, 23 + i, 99999);
            x.bid(i, 23 + i, i == 3 ? 99998 : 0);
        }
        Check.due("one penny more", x.sells(last), 699993);
        Check.due("buyer", x.buyer(last, 26), 56);
    }

    /** Promise 38: NONE: to nobody, no such ones, it isn't among them. */
    private static void buyersOfWhich() {
        FirmTown x = Towns.of(2, 3);
        x.bid(0, 0, 1);
        x.bid(1, 1, 1);
        Edge.range("a HOUSE", Edge.NONE, 0, 1, n -> x.buyer(3, n));
        Check.due("to nobody", x.buyer(7, 2), -1);
        Check.due("it isn't among them", x.buyer(2, 0), -1);
        Check.due("no HOUSES", x.buyer(0, 0), -1);
        Check.due("no such one among them", x.buyer(9, 0), -1);
        for (int house : new int[] {30, 31, 32, 33, 63, 64, -31, -32}) {
            Check.due("HOUSE " + house, x.buyer(3, house), -1);
        }
    }

    /** Each PERSON one at most. */
    private static void onePersonOneHouse() {
        FirmTown x = Towns.of(1, 7);
        for (int house = 0; house < 7; house++) {
            x.bid(0, house, 5);
        }
        Check.due("one of seven", x.sells(127), 5);
        for (int house = 0; house < 7; house++) {
            Check.due("the first HOUSE", x.buyer(127, house), house == 0 ? 0 : -1);
        }
        x.bid(0, 6, 6);
        Check.due("one of seven", x.sells(127), 6);
        for (int house = 0; house < 7; house++) {
            Check.due("the dearest HOUSE", x.buyer(127, house), house == 6 ? 0 : -1);
        }
    }

    /** Each to one PERSON at most. */
    private static void oneHouseOnePerson() {
        FirmTown x = Towns.of(60, 1);
        for (int person = 0; person < 60; person++) {
            x.bid(person, 0, 5);
        }
        Check.due("sum", x.sells(1), 5);
        Check.due("the least", x.buyer(1, 0), 0);
        x.bid(59, 0, 6);
        Check.due("sum", x.sells(1), 6);
        Check.due("the greatest BID", x.buyer(1, 0), 59);
        x.bid(58, 0, 6);
        Check.due("the least of those", x.buyer(1, 0), 58);
    }

    /** HOUSE by HOUSE by numbers, the least PERSON. */
    private static void leastPersonFirst() {
        FirmTown x = Towns.of(60, 2);
        for (int house = 0; house < 2; house++) {
            x.bid(57, house, 5);
            x.bid(58, house, 5);
            x.bid(59, house, 5);
        }
        Check.due("sum", x.sells(3), 10);
        Check.due("the first HOUSE to the least", x.buyer(3, 0), 57);
        Check.due("the second to the next", x.buyer(3, 1), 58);
        x.bid(57, 1, 6);
        x.bid(58, 0, 6);
        Check.due("the greatest sum goes first", x.sells(3), 12);
        Check.due("then PERSONS", x.buyer(3, 0), 58);
        Check.due("then PERSONS", x.buyer(3, 1), 57);
    }

    /** None behind all. */
    private static void noneBehindAll() {
        FirmTown x = Towns.of(60, 2);
        x.bid(59, 0, 5);
        x.bid(59, 1, 5);
        Check.due("the last PERSON ahead of none", x.buyer(3, 0), 59);
        Check.due("none", x.buyer(3, 1), -1);
        x.bid(0, 1, 0);
        Check.due("who has no BID gets none", x.buyer(3, 1), -1);
        x.bid(58, 0, 2);
        x.bid(59, 1, 3);
        Check.due("like sums", x.sells(3), 5);
        Check.due("the least at the first", x.buyer(3, 0), 58);
        Check.due("and the other", x.buyer(3, 1), 59);
    }

    /** Promise 39: False: no such ones. */
    private static void soldToWhom() {
        Edge.range("a HOUSE", Edge.FALSE, 0, 1, n -> Edge.number(withBids().sold(n, 0)));
        Edge.range("a PERSON", Edge.FALSE, 0, 1, n -> Edge.number(withBids().sold(0, n)));
    }

    private static FirmTown withBids() {
        FirmTown x = Towns.of(2, 2);
        for (int i = 0; i < 4; i++) {
            x.bid(i / 2, i % 2, 5);
        }
        return x;
    }

    /** Promise 39: False: no BID, it is SOLD; PURSE doesn't matter. */
    private static void soldForItsBid() {
        FirmTown x = Towns.of(3, 2);
        x.bid(0, 0, 100000);
        x.bid(1, 0, 1);
        Check.due("no BID", x.sold(0, 2), false);
        Check.due("a BID for another HOUSE", x.sold(1, 0), false);
        Check.due("not the greatest BID", x.sold(0, 1), true);
        Check.due("PURSE", x.of(1, 2), 0);
        Check.due("it is SOLD", x.sold(0, 0), false);
        Check.due("it is SOLD to it", x.sold(0, 1), false);
        Check.due("SOLD", x.houseOf(0, 2), 2);
        Check.due("to whom", x.houseOf(0, 3), 1);
    }

    /** Who is LET it has no HOUSE more, unless it is that PERSON; another one has none by it. */
    private static void whoIsLetIt() {
        FirmTown x = Towns.housed(3);
        x.bid(0, 0, 1);
        x.bid(0, 1, 1);
        x.bid(2, 1, 1);
        Check.due("to another", x.sold(1, 2), true);
        Check.due("it has no HOUSE more", x.of(1, 10), -1);
        Check.due("the other has its own", x.of(2, 10), 2);
        Check.due("its own is LET yet", x.houseOf(2, 2), 1);
        Check.due("to that PERSON", x.sold(0, 0), true);
        Check.due("it has it on", x.of(0, 10), 0);
        Check.due("it can ask", x.asks(1), 0);
        Check.due("it can't", x.asks(0), -1);
        FirmTown y = Towns.of(1, 1);
        y.bid(0, 0, 1);
        Check.due("an EMPTY one", y.sold(0, 0), true);
        Check.due("it has none by it", y.of(0, 10), -1);
    }

    private static void needntLeave() {
        FirmTown x = Towns.housed(2);
        for (int i = 0; i < 2; i++) {
            x.bid(0, i, 1);
            x.ends(i);
        }
        x.days(7);
        x.sold(0, 0);
        x.sold(1, 0);
        Check.due("on the very DAY", x.of(0, 11), -1);
        Check.due("who has none needn't either", x.of(1, 11), -1);
        x.days(2);
        Check.due("it has it on", x.of(0, 10), 0);
        Check.due("SOLD", x.houseOf(0, 2), 2);
        Check.due("SOLD", x.houseOf(1, 2), 2);
        Check.due("its owner", x.houseOf(1, 3), 0);
        Check.due("it didn't leave it by the end", x.undone(1), 0);
    }

    private static void severalHouses() {
        FirmTown x = Towns.of(1, 30);
        for (int house = 0; house < 30; house++) {
            x.bid(0, house, 1);
            Check.due("one more", x.sold(house, 0), true);
        }
        Check.due("all are SOLD", x.sells(1), -1);
        Check.due("none is given", x.give(29), -1);
        Check.due("to whom", x.houseOf(29, 3), 0);
    }
}
