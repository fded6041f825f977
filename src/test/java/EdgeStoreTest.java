/** The edges that promises 18 to 21 and the words about THE STORE and the CLUB name. */
public final class EdgeStoreTest {
    public static void main(String[] args) {
        goods();
        priceTownAndStock();
        goodsAtFirst();
        howMany();
        ofWhomAndOfWhat();
        stock();
        fullStock();
        fromPurse();
        creditAtItsEdge();
        creditAtItsBound();
        stockAheadOfCredit();
        dearerAtItsBounds();
        draws();
        nothingToDraw();
        runsAtTheEdge();
        runOfAll();
        Check.close("EdgeStoreTest");
    }

    /** GOODS 0 to 5. */
    private static void goods() {
        Edge.range("a GOOD", Edge.FALSE, 0, 5, n -> Edge.number(new FirmTown().good(n, 1, 1, 0)));
    }

    /** PRICE, TOWN (1 to 999 each), STOCK (0 to 9999). */
    private static void priceTownAndStock() {
        Edge.range("PRICE (1 to 999)", Edge.FALSE, 1, 999, n -> Edge.number(new FirmTown().good(0, n, 1, 0)));
        Edge.range("TOWN (1 to 999)", Edge.FALSE, 1, 999, n -> Edge.number(new FirmTown().good(0, 1, n, 0)));
        Edge.range("STOCK (0 to 9999)", Edge.FALSE, 0, 9999, n -> Edge.number(new FirmTown().good(0, 1, 1, n)));
    }

    /** 1 at first. */
    private static void goodsAtFirst() {
        for (int good = 0; good <= 5; good++) {
            FirmTown x = Towns.withPurse(100);
            Check.due("nothing in stock", x.buys(0, good, 1), -2);
        }
    }

    /** A PERSON buys n (1 to 99) of one. */
    private static void howMany() {
        Edge.range("n (1 to 99)", Edge.NONE, 1, 99, n -> {
            FirmTown x = Towns.withPurse(100);
            x.good(0, 1, 1, 9999);
            return x.buys(0, 0, n);
        });
        FirmTown x = Towns.withPurse(100);
        x.good(0, 1, 1, 9999);
        Check.due("99", x.buys(0, 0, 99), 99);
        Check.due("1", x.buys(0, 0, 1), 1);
        Check.due("PURSE", x.of(0, 2), 0);
    }

    private static void ofWhomAndOfWhat() {
        FirmTown x = Towns.withPurse(100);
        for (int good = 0; good <= 5; good++) {
            x.good(good, 1, 1, 99);
        }
        Edge.range("a PERSON", Edge.NONE, 0, 0, n -> x.buys(n, 0, 1));
        Edge.range("a GOOD", Edge.NONE, 0, 5, n -> x.buys(0, n, 1));
    }

    /** -2: not so many in STOCK. */
    private static void stock() {
        FirmTown x = Towns.withPurse(100);
        x.good(0, 2, 1, 5);
        Check.due("one more than there are", x.buys(0, 0, 6), -2);
        Check.due("PURSE", x.of(0, 2), 100);
        Check.due("all", x.buys(0, 0, 5), 10);
        Check.due("none is left", x.buys(0, 0, 1), -2);
        x.good(0, 2, 1, 1);
        Check.due("one is there", x.buys(0, 0, 1), 2);
        Check.due("none is left", x.buys(0, 0, 1), -2);
        x.good(0, 2, 1, 0);
        Check.due("none", x.buys(0, 0, 1), -2);
    }

    private static void fullStock() {
        FirmTown x = Towns.of(1, 0);
        Check.tell(x, 0, "credit 9999;");
        x.good(5, 1, 1, 9999);
        for (int i = 0; i < 101; i++) {
            Check.due("99 of 9999", x.buys(0, 5, 99), 99);
        }
        Check.due("DEBT", x.of(0, 4), 9999);
        Check.due("all are sold", x.buys(0, 5, 1), -2);
    }

    /** From PURSE, if there is so much; else all of it is DEBT. */
    private static void fromPurse() {
        FirmTown x = Towns.withPurse(100);
        Check.tell(x, 0, "credit 500;");
        x.good(0, 101, 1, 9);
        Check.due("one penny too little", x.buys(0, 0, 1), 101);
        Check.due("PURSE", x.of(0, 2), 100);
        Check.due("DEBT", x.of(0, 4), 101);
        x.good(0, 100, 1, 9);
        Check.due("just so much", x.buys(0, 0, 1), 100);
        Check.due("PURSE", x.of(0, 2), 0);
        Check.due("DEBT", x.of(0, 4), 101);
        x.good(0, 1, 1, 9);
        Check.due("an empty PURSE", x.buys(0, 0, 1), 1);
        Check.due("DEBT", x.of(0, 4), 102);
    }

    /** DEBT, if DEBT would not be above THE RULE of credit TODAY (-3: above credit). */
    private static void creditAtItsEdge() {
        FirmTown x = Towns.of(1, 0);
        x.good(0, 1, 1, 999);
        Check.due("without a rule", x.buys(0, 0, 1), -3);
        Check.tell(x, 0, "credit 50;");
        Check.due("one above", x.buys(0, 0, 51), -3);
        Check.due("DEBT", x.of(0, 4), 0);
        Check.due("up to it", x.buys(0, 0, 50), 50);
        Check.due("one above", x.buys(0, 0, 1), -3);
        Check.tell(x, 1, "credit 51;");
        Check.due("a rule of tomorrow", x.buys(0, 0, 1), -3);
        x.days(1);
        Check.due("of today", x.buys(0, 0, 1), 1);
        Check.due("one above", x.buys(0, 0, 1), -3);
        Check.due("DEBT", x.of(0, 4), 51);
        Check.tell(x, 1, "credit 0;");
        Check.due("DEBT is above already", x.buys(0, 0, 1), -3);
    }

    private static void creditAtItsBound() {
        FirmTown x = Towns.of(1, 0);
        Check.tell(x, 0, "credit 1000*1000+500;");
        x.good(0, 999, 1, 9999);
        for (int i = 0; i < 10; i++) {
            Check.due("99 of 999", x.buys(0, 0, 99), 98901);
        }
        Check.due("12 more of 999 are above", x.buys(0, 0, 12), -3);
        Check.due("11 more", x.buys(0, 0, 11), 10989);
        Check.due("DEBT", x.of(0, 4), 999999);
        x.good(0, 2, 1, 9);
        Check.due("one above 1000000", x.buys(0, 0, 1), -3);
        x.good(0, 1, 1, 9);
        Check.due("1000000", x.buys(0, 0, 1), 1);
        Check.due("1000001", x.buys(0, 0, 1), -3);
        Check.due("DEBT", x.of(0, 4), 1000000);
    }

    private static void stockAheadOfCredit() {
        FirmTown x = Towns.of(1, 0);
        x.good(0, 1, 1, 4);
        Check.due("not so many, and no credit", x.buys(0, 0, 5), -2);
        Check.due("so many, and no credit", x.buys(0, 0, 4), -3);
        Check.due("wrong, and not so many", x.buys(0, 0, 100), -1);
    }

    /** DEARER: what all that it bought cost above TOWN (perhaps below 0). */
    private static void dearerAtItsBounds() {
        FirmTown x = Towns.of(1, 0);
        Check.tell(x, 0, "credit 1000*1000;");
        x.good(0, 1, 999, 99);
        x.good(1, 999, 1, 99);
        x.good(2, 7, 7, 99);
        Check.due("as dear", x.buys(0, 2, 99), 693);
        Check.due("DEARER", x.of(0, 12), 0);
        Check.due("cheapest", x.buys(0, 0, 99), 99);
        Check.due("DEARER", x.of(0, 12), -98802);
        Check.due("dearest", x.buys(0, 1, 99), 98901);
        Check.due("DEARER", x.of(0, 12), 0);
        x.good(1, 1, 1, 1);
        Check.due("-2", x.buys(0, 1, 2), -2);
        Check.due("DEARER", x.of(0, 12), 0);
    }

    /** Three who have SAVED 30, 20, 10, and BOX holds some hundredths of each. */
    private static FirmTown saved(int holds) {
        FirmTown x = new FirmTown();
        x.holds(holds);
        for (int i = 0; i < 3; i++) {
            x.person(1, 30);
            x.post(i, 1);
            x.hours(i, 0, 80);
            x.club(i, 30 - 10 * i);
        }
        x.days(7);
        return x;
    }

    /** As much as is SAVED and there is in BOX comes to PURSE. */
    private static void draws() {
        Edge.range("a PERSON", Edge.NONE, 0, 2, n -> saved(100).draws(n));
        FirmTown x = saved(50);
        Check.due("BOX", x.count(8), 30);
        int purse = x.of(0, 2);
        Check.due("just so much as there is", x.draws(0), 30);
        Check.due("PURSE", x.of(0, 2), purse + 30);
        Check.due("SAVED", x.of(0, 3), 0);
        Check.due("BOX", x.count(8), 0);
        Check.due("an empty BOX", x.draws(1), 0);
        Check.due("SAVED yet", x.of(1, 3), 20);
        FirmTown y = saved(40);
        Check.due("BOX", y.count(8), 24);
        Check.due("more than SAVED", y.draws(1), 20);
        Check.due("less than SAVED", y.draws(2), 4);
        Check.due("SAVED yet", y.of(2, 3), 6);
        Check.due("BOX", y.count(8), 0);
    }

    private static void nothingToDraw() {
        FirmTown x = saved(100);
        x.draws(0);
        Check.due("nothing SAVED", x.draws(0), 0);
        Check.due("BOX", x.count(8), 30);
        FirmTown y = Towns.of(1, 0);
        Check.due("never SAVED", y.draws(0), 0);
        Check.due("PURSE", y.of(0, 2), 0);
    }

    /** Promise 21: what 0, 1; NONE: another what. */
    private static void runsAtTheEdge() {
        Edge.range("what of a RUN", Edge.NONE, 0, 1, n -> saved(50).run(n));
        FirmTown x = saved(100);
        Check.due("just so much for all", x.run(0), 0);
        Check.due("nothing lacks", x.run(1), 0);
        x.holds(0);
        x.club(2, 1);
        x.hours(2, 1, 80);
        x.days(7);
        Check.due("one penny less than for all", x.run(0), 1);
        Check.due("it lacks", x.run(1), 1);
        x.draws(2);
        Check.due("by numbers: another lacks it", x.run(0), 1);
        Check.due("it lacks", x.run(1), 1);
    }

    private static void runOfAll() {
        FirmTown x = saved(50);
        Check.due("BOX goes to the first", x.run(0), 2);
        Check.due("what the others lack", x.run(1), 30);
        FirmTown y = saved(49);
        Check.due("less for the first too", y.run(0), 3);
        Check.due("what all lack", y.run(1), 60 - y.count(8));
        FirmTown z = saved(0);
        Check.due("nothing in BOX", z.run(0), 3);
        Check.due("all lacks", z.run(1), 60);
        Check.due("and nothing was asked", z.of(0, 3) + z.of(1, 3) + z.of(2, 3), 60);
    }
}
