/** Promises 22 to 26: a POST that ends, what is undone, THE QUEUE, and who was passed over. */
public final class HouseTest {
    public static void main(String[] args) {
        ends();
        keeps();
        asWithThePost();
        leaves();
        postAgain();
        undone();
        undoneInTime();
        undoneHouse();
        soldMeanwhile();
        asks();
        gives();
        passed();
        Check.close("HouseTest");
    }

    /** Person i of n (heads 2) is let house i (rooms 2). */
    private static FirmTown housed(int n) {
        FirmTown x = new FirmTown();
        for (int i = 0; i < n; i++) {
            x.person(2, 30);
            x.house(2, 1);
            x.post(i, 10 + i);
            x.asks(i);
            x.give(i);
        }
        return x;
    }

    private static void ends() {
        FirmTown x = housed(1);
        x.person(2, 30);
        Check.due("no person", x.ends(2), -1);
        Check.due("person -1", x.ends(-1), -1);
        Check.due("no post", x.ends(1), -1);
        x.days(5);
        Check.due("by the rule without a text", x.ends(0), 12);
        Check.due("no post more", x.ends(0), -1);
        Check.due("let yet", x.houseOf(0, 2), 1);
        x.post(1, 10);
        Check.due("no house", x.ends(1), -2);
        Check.due("needn't leave", x.of(1, 11), -1);
    }

    private static void keeps() {
        FirmTown x = housed(2);
        Check.tell(x, 0, "keep if pay=10;leave 3;");
        Check.due("keep", x.ends(0), -2);
        Check.due("the house stays", x.of(0, 10), 0);
        Check.due("keep doesn't hold", x.ends(1), 3);
        x.days(60);
        Check.due("stays let", x.houseOf(0, 3), 0);
        Check.due("left", x.houseOf(1, 3), -1);
        x = housed(1);
        x.bid(0, 0, 5);
        x.sold(0, 0);
        Check.due("sold", x.ends(0), -2);
        x.days(60);
        Check.due("the house stays", x.of(0, 10), 0);
        Check.due("sold yet", x.houseOf(0, 2), 2);
    }

    private static void asWithThePost() {
        FirmTown x = housed(1);
        Check.tell(x, 0, "leave 20 if pay=10 and weeks=2;leave 30 if pay=0;leave 31 if weeks=0;");
        x.days(15);
        Check.due("leave as with the post", x.ends(0), 35);
        x.post(0, 10);
        Check.due("weeks since it began", x.ends(0), 46);
    }

    private static void leaves() {
        FirmTown x = housed(2);
        Check.tell(x, 0, "leave 3;leave 0 if pay=11;");
        Check.due("leave 3", x.ends(0), 3);
        Check.due("leave 0", x.ends(1), 0);
        Check.due("must leave", x.of(1, 11), 0);
        Check.due("has it today", x.of(1, 10), 1);
        x.days(1);
        Check.due("left as the day went by", x.of(1, 10), -1);
        Check.due("empty", x.houseOf(1, 2), 0);
        x.days(2);
        Check.due("day 3 has not gone by", x.of(0, 10), 0);
        x.days(1);
        Check.due("day 3 went by", x.of(0, 10), -1);
        Check.due("nobody", x.houseOf(0, 3), -1);
        leavesAheadOfTheWeek();
    }

    private static void leavesAheadOfTheWeek() {
        FirmTown x = housed(2);
        Check.tell(x, 0, "rent 5;leave 6;leave 7 if pay=11;");
        x.ends(0);
        x.ends(1);
        x.days(7);
        Check.due("who left on the last day pays none", x.row(0, 0, 1), 0);
        Check.due("no house", x.row(0, 0, 6), -1);
        Check.due("who leaves behind it pays", x.row(0, 1, 1), 5);
    }

    private static void postAgain() {
        FirmTown x = housed(1);
        x.ends(0);
        x.days(7);
        Check.due("post again", x.post(0, 50), true);
        Check.due("needn't leave", x.of(0, 11), -1);
        x.days(30);
        Check.due("stays", x.of(0, 10), 0);
        Check.due("can't be undone with a post", x.undone(0), -1);
        Check.due("ends again", x.ends(0), 44);
        Check.due("the later post is as it was", x.undone(0), 0);
        Check.due("pay", x.of(0, 8), 50);
        Check.due("from", x.of(0, 9), 7);
    }

    private static void undone() {
        FirmTown x = housed(1);
        Check.due("no person", x.undone(1), -1);
        Check.due("person -1", x.undone(-1), -1);
        Check.due("has a post", x.undone(0), -1);
        x.person(2, 30);
        Check.due("never had a post", x.undone(1), -1);
        x.days(3);
        x.ends(0);
        x.days(5);
        Check.due("undone", x.undone(0), 0);
        Check.due("pay", x.of(0, 8), 10);
        Check.due("from", x.of(0, 9), 0);
        Check.due("needn't leave", x.of(0, 11), -1);
        Check.due("undone once", x.undone(0), -1);
        x.days(30);
        Check.due("stays", x.of(0, 10), 0);
        x.ends(0);
        Check.due("undone again", x.undone(0), 0);
    }

    private static void undoneInTime() {
        FirmTown x = housed(2);
        x.days(4);
        x.ends(0);
        x.ends(1);
        x.days(30);
        Check.due("30 days behind", x.undone(0), 1);
        x.days(1);
        Check.due("31 days behind", x.undone(1), -1);
        Check.due("no post", x.of(1, 8), 0);
        Check.due("no house", x.of(1, 10), -1);
    }

    private static void undoneHouse() {
        FirmTown x = housed(2);
        x.ends(0);
        x.ends(1);
        x.days(8);
        x.person(2, 30);
        x.post(2, 10);
        x.asks(2);
        Check.due("given on", x.give(0), 2);
        Check.due("its house is let", x.undone(0), 0);
        Check.due("no house", x.of(0, 10), -1);
        Check.due("its house is empty", x.undone(1), 1);
        Check.due("house", x.of(1, 10), 1);
        Check.due("let", x.houseOf(1, 2), 1);
        Check.due("to whom", x.houseOf(1, 3), 1);
        Check.due("to whom", x.houseOf(0, 3), 2);
        laterEnd();
    }

    /** What was left by an earlier end of a POST doesn't come back by a later one. */
    private static void laterEnd() {
        FirmTown x = housed(1);
        x.ends(0);
        x.days(8);
        x.post(0, 60);
        x.days(1);
        Check.due("no house to leave", x.ends(0), -2);
        Check.due("the house was left by an earlier end", x.undone(0), 0);
        Check.due("pay", x.of(0, 8), 60);
        Check.due("no house", x.of(0, 10), -1);
    }

    private static void soldMeanwhile() {
        FirmTown x = housed(2);
        x.bid(0, 0, 5);
        x.bid(0, 1, 5);
        x.ends(0);
        x.ends(1);
        Check.due("sold to whom it is let", x.sold(0, 0), true);
        Check.due("needn't leave", x.of(0, 11), -1);
        Check.due("sold to another", x.sold(1, 0), true);
        Check.due("has none to leave", x.of(1, 11), -1);
        Check.due("has none", x.of(1, 10), -1);
        x.days(20);
        Check.due("has it on", x.of(0, 10), 0);
        Check.due("sold yet", x.houseOf(1, 2), 2);
        Check.due("undone", x.undone(1), 0);
        Check.due("a sold house is let to nobody", x.of(1, 10), -1);
        x = housed(1);
        x.person(2, 30);
        x.bid(1, 0, 5);
        x.ends(0);
        x.days(8);
        x.sold(0, 1);
        Check.due("sold when it was left", x.undone(0), 0);
        Check.due("to whom", x.houseOf(0, 3), 1);
    }

    private static void asks() {
        FirmTown x = new FirmTown();
        for (int i = 0; i < 4; i++) {
            x.person(2, 30);
        }
        x.house(1, 1);
        Check.due("no person", x.asks(4), -1);
        Check.due("person -1", x.asks(-1), -1);
        Check.due("no post", x.asks(0), -1);
        for (int i = 0; i < 4; i++) {
            x.post(i, 10);
        }
        Check.due("first", x.asks(2), 0);
        Check.due("second", x.asks(0), 1);
        Check.due("third", x.asks(3), 2);
        Check.due("is in it", x.asks(0), -1);
        Check.due("who lost the post is in it no more", x.ends(0), -2);
        Check.due("place", x.of(0, 13), -1);
        Check.due("place of the next", x.of(3, 13), 1);
        Check.due("how many", x.count(11), 2);
        x.undone(0);
        Check.due("it isn't in it again", x.of(0, 13), -1);
        Check.due("asks again", x.asks(0), 2);
        Check.due("given", x.give(0), 2);
        Check.due("has a house", x.asks(2), -1);
        Check.due("place", x.of(3, 13), 0);
        x.bid(1, 0, 5);
        x.sold(0, 1);
        Check.due("who bought a house has none by it", x.asks(1), 2);
        Check.due("whose house was sold", x.asks(2), 3);
    }

    private static void gives() {
        FirmTown x = new FirmTown();
        int[] heads = {5, 4, 2, 2, 4};
        for (int i = 0; i < 5; i++) {
            x.person(heads[i], 30 + i);
            x.post(i, 10);
        }
        for (int i = 0; i < 6; i++) {
            x.house(2, 5 - i);
        }
        Check.due("no house", x.give(6), -1);
        Check.due("house -1", x.give(-1), -1);
        Check.due("nobody asked", x.give(0), -2);
        x.asks(0);
        Check.due("none with room", x.give(0), -2);
        Check.due("empty yet", x.houseOf(0, 2), 0);
        for (int i = 4; i > 0; i--) {
            x.asks(i);
        }
        Check.due("the first of like ones", x.give(3), 4);
        Check.due("let", x.give(3), -1);
        Check.tell(x, 0, "rank age-40;rank 0-50 if age=33;");
        Check.due("the greatest, below 0", x.give(0), 2);
        Check.due("the next", x.give(1), 1);
        Check.due("the last", x.give(2), 3);
        Check.due("who needs more room", x.give(4), -2);
        Check.due("in the queue yet", x.of(0, 13), 0);
        x.bid(0, 4, 1);
        x.sold(4, 0);
        Check.due("sold", x.give(4), -1);
        x.house(3, 0);
        Check.due("has room", x.give(6), 0);
        Check.due("nobody is left", x.count(11), 0);
    }

    private static void passed() {
        FirmTown x = new FirmTown();
        int[] heads = {3, 2, 12, 2, 1};
        int[] ages = {30, 31, 99, 40, 20};
        for (int i = 0; i < 5; i++) {
            x.person(heads[i], Math.min(ages[i], 90));
            x.post(i, 10);
            x.asks(i);
        }
        x.house(1, 0);
        x.house(1, 0);
        x.house(1, 0);
        Check.tell(x, 0, "rank age;");
        Check.due("given", x.give(0), 3);
        whyPassed(x, 1, 2, 1, 0, 0);
        Check.due("no person", x.passed(5), -1);
        Check.due("person -1", x.passed(-1), -1);
        Check.due("given", x.give(1), 1);
        whyPassed(x, 1, 0, 0, 0, 0);
        Check.due("not given", x.give(1), -1);
        whyPassed(x, 1, 0, 0, 0, 0);
        Check.due("given", x.give(2), 4);
        whyPassed(x, 1, 0, 1, 0, 0);
        x.house(1, 0);
        Check.due("to nobody", x.give(3), -2);
        whyPassed(x, 1, 0, 1, 0, 0);
        x.ends(0);
        whyPassed(x, 1, 0, 1, 0, 0);
        x.person(2, 20);
        Check.due("who came later", x.passed(5), 0);
        x.house(9, 0);
        Check.due("given", x.give(4), 2);
        whyPassed(x, 0, 0, 0, 0, 0);
    }

    private static void whyPassed(FirmTown x, int... due) {
        for (int i = 0; i < due.length; i++) {
            Check.due("passed(" + i + ")", x.passed(i), due[i]);
        }
    }
}
