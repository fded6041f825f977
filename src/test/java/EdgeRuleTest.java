/** The edges that promises 11 to 14 and the words about THE RULES name. */
public final class EdgeRuleTest {
    private static final int MOST_SUM = 1000000000;

    public static void main(String[] args) {
        kinds();
        names();
        personsAsked();
        daysAsked();
        daysKnown();
        fromADayOn();
        fromTheFirstAndLastDay();
        toldByThen();
        orderOfOneDay();
        struckAheadInThatOrder();
        sumsAtTheirBounds();
        relationsAtTheBounds();
        boundsOfRent();
        boundsOfCredit();
        noBoundsOfRank();
        wordsAloneAreNotCutDown();
        weeksSinceThePostBegan();
        withoutHouseAndPost();
        noStatementHolds();
        noQuarrel();
        quarrelsOfFullTexts();
        quarrelsWithinBounds();
        lastTextAndStatement();
        Check.close("EdgeRuleTest");
    }

    private static FirmTown ruled(String text) {
        FirmTown x = Towns.of(3, 1);
        Check.tell(x, 0, text);
        return x;
    }

    /** Promises 11 to 13: a KIND (0 rent, 1 most, 2 leave, 3 keep, 4 rank, 5 credit). */
    private static void kinds() {
        FirmTown x = ruled("rent 1;most 1;leave 1;keep;rank 1;credit 1;fine a 1;");
        Edge.range("value: a KIND", Edge.THREW, 0, 5, n -> x.value(n, 0, 0, 0));
        Edge.range("why: a KIND", Edge.NONE, 0, 5, n -> x.why(n, 0, 0, 0));
        Edge.range("quarrel: a KIND", Edge.NONE, 0, 5, n -> x.quarrel(n, 0, 0, 0));
    }

    /** Promise 14: a NAME (its number). NONE: no such ones. */
    private static void names() {
        FirmTown none = ruled("keep;");
        Check.due("no name", none.fineOf(0, 0, 0, 0), -1);
        FirmTown x = ruled("fine a 1;fine b 2;fine c 3;fine b 4;");
        Edge.range("a NAME", Edge.NONE, 0, 2, n -> x.fineOf(n, 0, 0, 0));
    }

    private static void personsAsked() {
        FirmTown x = ruled("rent 1;fine a 1;");
        Edge.range("value: a PERSON", Edge.THREW, 0, 2, n -> x.value(0, n, 0, 0));
        Edge.range("why: a PERSON", Edge.NONE, 0, 2, n -> x.why(0, n, 0, 0));
        Edge.range("quarrel: a PERSON", Edge.NONE, 0, 2, n -> x.quarrel(0, n, 0, 0));
        Edge.range("fineOf: a PERSON", Edge.NONE, 0, 2, n -> x.fineOf(0, n, 0, 0));
    }

    /** DAYS go from 0 to 9999. */
    private static void daysAsked() {
        FirmTown x = ruled("rent 1;fine a 1;");
        Edge.range("value: a DAY", Edge.THREW, 0, 9999, n -> x.value(0, 0, n, 0));
        Edge.range("why: a DAY", Edge.NONE, 0, 9999, n -> x.why(0, 0, n, 0));
        Edge.range("quarrel: a DAY", Edge.NONE, 0, 9999, n -> x.quarrel(0, 0, n, 0));
        Edge.range("fineOf: a DAY", Edge.NONE, 0, 9999, n -> x.fineOf(0, 0, n, 0));
    }

    /** As known on a DAY (0 to TODAY). */
    private static void daysKnown() {
        for (int today : new int[] {0, 3, 9999}) {
            FirmTown x = ruled("rent 1;fine a 1;");
            Towns.until(x, today);
            Edge.range("value: known", Edge.THREW, 0, today, n -> x.value(0, 0, 0, n));
            Edge.range("why: known", Edge.NONE, 0, today, n -> x.why(0, 0, 0, n));
            Edge.range("quarrel: known", Edge.NONE, 0, today, n -> x.quarrel(0, 0, 0, n));
            Edge.range("fineOf: known", Edge.NONE, 0, today, n -> x.fineOf(0, 0, 0, n));
        }
    }

    /** TEXTS that are in force on a DAY d (from it or ahead). */
    private static void fromADayOn() {
        FirmTown x = Towns.of(1, 0);
        Check.tell(x, 50, "rank 8;fine a 9;");
        Check.due("the day ahead", x.value(4, 0, 49, 0), 0);
        Check.due("why the day ahead", x.why(4, 0, 49, 0), -1);
        Check.due("the day itself", x.value(4, 0, 50, 0), 8);
        Check.due("why the day itself", x.why(4, 0, 50, 0), 0);
        Check.due("the fine ahead", x.fineOf(0, 0, 49, 0), 0);
        Check.due("the fine on it", x.fineOf(0, 0, 50, 0), 9);
    }

    private static void fromTheFirstAndLastDay() {
        FirmTown x = Towns.of(1, 0);
        Check.tell(x, 9999, "rank 9;");
        Check.tell(x, 0, "rank 1;");
        Check.due("on the first day", x.value(4, 0, 0, 0), 1);
        Check.due("on the last day but one", x.value(4, 0, 9998, 0), 1);
        Check.due("on the last day", x.value(4, 0, 9999, 0), 9);
    }

    /** TEXTS known by a DAY k (told by then). */
    private static void toldByThen() {
        FirmTown x = Towns.of(1, 0);
        x.days(5);
        Check.tell(x, 0, "rank 8;");
        x.days(1);
        Check.due("the day ahead of its telling", x.value(4, 0, 9, 4), 0);
        Check.due("the day of its telling", x.value(4, 0, 9, 5), 8);
        Check.due("the day behind its telling", x.value(4, 0, 9, 6), 8);
        FirmTown late = Towns.of(1, 0);
        Towns.until(late, 9999);
        Check.tell(late, 9999, "rank 8;");
        Check.due("told on the last day", late.value(4, 0, 9999, 9999), 8);
        Check.due("known on the last day but one", late.value(4, 0, 9999, 9998), 0);
    }

    /** ORDERED by the DAY from which they are, then by number. */
    private static void orderOfOneDay() {
        FirmTown x = Towns.of(1, 0);
        Check.tell(x, 5, "rank 1;");
        Check.tell(x, 5, "rank 2;");
        Check.tell(x, 4, "rank 3;");
        Check.due("one day, by number", x.value(4, 0, 5, 0), 2);
        Check.due("why", x.why(4, 0, 5, 0), 100);
        Check.due("the day ahead", x.value(4, 0, 4, 0), 3);
        FirmTown full = Towns.of(1, 0);
        for (int i = 0; i < 12; i++) {
            Check.tell(full, 11 - i, "rank day-" + i + ";");
        }
        for (int day = 0; day < 12; day++) {
            Check.due("twelve, told backwards", full.why(4, 0, day, 0), 100 * (11 - day));
            Check.due("value", full.value(4, 0, day, 0), day - (11 - day));
        }
    }

    /** A strike takes away all STATEMENTS of its KIND of TEXTS that are ahead in that order. */
    private static void struckAheadInThatOrder() {
        FirmTown x = Towns.of(1, 0);
        Check.tell(x, 5, "rank 1;");
        Check.tell(x, 5, "strike rank;");
        Check.tell(x, 5, "rank 2 if day=6;");
        Check.due("of one day, by number", x.value(4, 0, 5, 0), 0);
        Check.due("none left", x.why(4, 0, 5, 0), -1);
        Check.due("behind the strike", x.value(4, 0, 6, 0), 2);
        Check.due("what is struck is no quarrel", x.quarrel(4, 0, 6, 0), 0);
        FirmTown first = Towns.of(1, 0);
        Check.tell(first, 0, "strike rank;");
        Check.tell(first, 0, "rank 4;strike rank;");
        Check.due("none is ahead, and not its own", first.value(4, 0, 0, 0), 4);
        FirmTown later = Towns.of(1, 0);
        Check.tell(later, 0, "rank 4;fine a 2;fine b 3;");
        Check.tell(later, 7, "strike rank;strike fine;");
        Check.due("ahead of its day", later.value(4, 0, 6, 0), 4);
        Check.due("on its day", later.value(4, 0, 7, 0), 0);
        Check.due("a fine ahead of its day", later.fineOf(1, 0, 6, 0), 3);
        Check.due("fines of all names", later.fineOf(0, 0, 7, 0) + later.fineOf(1, 0, 7, 0), 0);
        Check.due("the names are there yet", later.count(4), 2);
    }

    private static void rank(String sum, int due) {
        Check.due("rank " + sum, ruled("rank " + sum + ";").value(4, 0, 0, 0), due);
    }

    /** Each sum, difference, product above 1000000000 is that, below -1000000000 likewise. */
    private static void sumsAtTheirBounds() {
        String most = "1000*1000*1000";
        String least = "(0-1000)*1000*1000";
        rank(most, MOST_SUM);
        rank(most + "-1", MOST_SUM - 1);
        rank("999*1000*1000+9999*100+99+1", MOST_SUM);
        rank("999*1000*1000+9999*100+99", MOST_SUM - 1);
        rank("1+" + most, MOST_SUM);
        rank(most + "+1", MOST_SUM);
        rank(most + "+1-1", MOST_SUM - 1);
        rank(most + "-1+1", MOST_SUM);
        rank(most + "-1+2", MOST_SUM);
        rank(most + "-1+2-1", MOST_SUM - 1);
        rank(most + "+" + most + "-" + most, 0);
        rank(most + "-(0-1)", MOST_SUM);
        rank(most + "-(0-1)-1", MOST_SUM - 1);
        rank(least, -MOST_SUM);
        rank(least + "+1", 1 - MOST_SUM);
        rank(least + "-1", -MOST_SUM);
        rank(least + "-1+1", 1 - MOST_SUM);
        rank(least + "+1-2+1", 1 - MOST_SUM);
        rank(least + "+(0-1)+1", 1 - MOST_SUM);
        rank(least + "-" + most + "+" + most, 0);
        rank(most + "*1", MOST_SUM);
        rank("1000*1000*1001", MOST_SUM);
        rank("1000*1000*1001-1", MOST_SUM - 1);
        rank("9999*9999*10", 999800010);
        rank("9999*9999*11", MOST_SUM);
        rank("(" + most + ")*(" + most + ")", MOST_SUM);
        rank("(" + most + ")*(" + least + ")", -MOST_SUM);
        rank("(" + least + ")*(" + least + ")", MOST_SUM);
        rank("(0-1000)*1000*1001", -MOST_SUM);
        rank("(0-1000)*1000*1001+1", 1 - MOST_SUM);
        rank(most + "*2*0", 0);
        rank("8192*8*8192*8-1", MOST_SUM - 1);
        rank("0", 0);
        rank("0-0", 0);
        rank("0*9999", 0);
    }

    private static void relationsAtTheBounds() {
        String[] hold = {"1000*1000*1000=1000*1000*1001", "not 1000*1000*1000<1000*1000*1001",
            "not 1000*1000*1001>1000*1000*1000", "1000*1000*1000-1<1000*1000*1000",
            "(0-1000)*1000*1000=(0-1000)*1000*1001", "(0-1000)*1000*1000<1000*1000*1000",
            "0=0000", "not 0<0", "not 0>0", "0<1", "1>0", "0-1<0", "not 0>1", "not 1<0", "not 0=1"};
        for (String cond : hold) {
            Check.due(cond, ruled("keep if " + cond + ";").value(3, 0, 0, 0), 1);
        }
    }

    private static void bounded(int kind, String name) {
        String[] sums = {"0-1000*1000*1000", "0-1", "0", "1", "1000*1000-1", "1000*1000", "1000*1000+1",
            "1000*1000*1000"};
        int[] due = {0, 0, 0, 1, 999999, 1000000, 1000000, 1000000};
        for (int i = 0; i < sums.length; i++) {
            FirmTown x = ruled(name + " " + sums[i] + ";");
            Check.due(name + " " + sums[i], x.value(kind, 0, 0, 0), due[i]);
        }
    }

    /** rent, credit are 0 at least, 1000000 at most. */
    private static void boundsOfRent() {
        bounded(0, "rent");
    }

    private static void boundsOfCredit() {
        bounded(5, "credit");
    }

    private static void noBoundsOfRank() {
        rank("0-1", -1);
        rank("1000*1000+1", 1000001);
        rank("0-1000*1000-1", -1000001);
        rank("1000*1000*1000", MOST_SUM);
        rank("0-1000*1000*1000", -MOST_SUM);
    }

    /** A WORD is no sum, difference or product: ARREARS of all WEEKS are above 1000000000. */
    private static void wordsAloneAreNotCutDown() {
        FirmTown x = Towns.housed(1);
        Check.tell(x, 0, "rent 1000*1000;most 0;");
        Towns.until(x, 9999);
        Check.due("arrears of 1428 weeks", x.of(0, 6), 1428000000);
        Check.tell(x, 0, "rank arrears;");
        Check.due("a word", x.value(4, 0, 9999, 9999), 1428000000);
        Check.tell(x, 0, "rank arrears+0;");
        Check.due("a sum", x.value(4, 0, 9999, 9999), MOST_SUM);
        Check.tell(x, 0, "rank arrears*1-1;");
        Check.due("a product", x.value(4, 0, 9999, 9999), MOST_SUM - 1);
        Check.tell(x, 0, "rank 0-arrears;");
        Check.due("a difference", x.value(4, 0, 9999, 9999), -MOST_SUM);
        Check.tell(x, 0, "rent arrears;credit arrears;");
        Check.due("rent", x.value(0, 0, 9999, 9999), 1000000);
        Check.due("credit", x.value(5, 0, 9999, 9999), 1000000);
    }

    /** weeks (since its POST began, rounded down; 0 without, or if it is ahead). */
    private static void weeksSinceThePostBegan() {
        FirmTown x = ruled("rank weeks;");
        x.days(20);
        Check.due("without", x.value(4, 0, 9999, 20), 0);
        x.post(0, 5);
        int[] days = {0, 12, 13, 19, 20, 26, 27, 33, 34, 9999};
        int[] due = {0, 0, 0, 0, 0, 0, 1, 1, 2, 1425};
        for (int i = 0; i < days.length; i++) {
            Check.due("weeks on " + days[i], x.value(4, 0, days[i], 20), due[i]);
        }
        x.ends(0);
        Check.due("without again", x.value(4, 0, 9999, 20), 0);
        FirmTown first = ruled("rank weeks;");
        first.post(0, 5);
        Check.due("of all days", first.value(4, 0, 9999, 0), 1428);
        Check.due("of six days", first.value(4, 0, 6, 0), 0);
        Check.due("of seven days", first.value(4, 0, 7, 0), 1);
    }

    /** rooms, size of its HOUSE (0 without), pay (0 without a POST). */
    private static void withoutHouseAndPost() {
        FirmTown x = ruled("rank rooms;rent size;credit pay;leave 1 if heads=2 and age=30;");
        Check.due("rooms", x.value(4, 0, 0, 0), 0);
        Check.due("size", x.value(0, 0, 0, 0), 0);
        Check.due("pay", x.value(5, 0, 0, 0), 0);
        Check.due("heads and age", x.value(2, 0, 0, 0), 1);
        FirmTown high = new FirmTown();
        high.person(12, 90);
        high.house(9, 5);
        high.post(0, 200);
        high.asks(0);
        high.give(0);
        Check.tell(high, 0, "rank rooms*1000+heads*10+size;rent age;credit pay;");
        Check.due("rooms, heads, size", high.value(4, 0, 0, 0), 9125);
        Check.due("age", high.value(0, 0, 0, 0), 90);
        Check.due("pay", high.value(5, 0, 0, 0), 200);
        high.bid(0, 0, 1);
        high.sold(0, 0);
        Check.due("a sold house is its house", high.value(4, 0, 0, 0), 9125);
        high.ends(0);
        Check.due("pay without a post", high.value(5, 0, 0, 0), 0);
    }

    /** Without: rent 0, most 100, leave 7, keep 0, rank 0, credit 0, fine 0. */
    private static void noStatementHolds() {
        FirmTown x = ruled("rent 5 if 1=2;most 5 if 1=2;leave 5 if 1=2;keep if 1=2;rank 5 if 1=2;"
                + "credit 5 if 1=2;fine a 5 if 1=2;");
        int[] due = {0, 100, 7, 0, 0, 0};
        for (int kind = 0; kind < due.length; kind++) {
            Check.due("value of " + kind, x.value(kind, 0, 0, 0), due[kind]);
            Check.due("why of " + kind, x.why(kind, 0, 0, 0), -1);
            Check.due("quarrel of " + kind, x.quarrel(kind, 0, 0, 0), 0);
        }
        Check.due("fine", x.fineOf(0, 0, 0, 0), 0);
    }

    private static void noQuarrel() {
        Check.due("one", ruled("rent 5;").quarrel(0, 0, 0, 0), 0);
        Check.due("two alike", ruled("rent 5;rent 5;").quarrel(0, 0, 0, 0), 0);
        Check.due("two", ruled("rent 4;rent 5;").quarrel(0, 0, 0, 0), 1);
        Check.due("one doesn't hold", ruled("rent 4 if 1=2;rent 5;").quarrel(0, 0, 0, 0), 0);
        Check.due("the last doesn't hold", ruled("rent 4;rent 5;rent 6 if 1=2;").quarrel(0, 0, 0, 0), 1);
        Check.due("a value like without", ruled("most 100;most 99;").quarrel(1, 0, 0, 0), 1);
        Check.due("another kind", ruled("rent 4;rank 5;").quarrel(0, 0, 0, 0), 0);
        Check.due("keep is 1 always", ruled("keep;keep;keep if 1=1;").quarrel(3, 0, 0, 0), 0);
    }

    private static void quarrelsOfFullTexts() {
        FirmTown x = Towns.of(1, 0);
        for (int i = 0; i < 12; i++) {
            Check.tell(x, i, "rank 0;rank 1;rank 2;rank 3;rank 4;rank 5;rank 6;rank 7;rank 8;rank 9;");
        }
        Check.due("of 120 statements", x.quarrel(4, 0, 9999, 0), 108);
        Check.due("of 110 statements", x.quarrel(4, 0, 10, 0), 99);
        Check.due("of 10 statements", x.quarrel(4, 0, 0, 0), 9);
    }

    /** Another VALUE (within its bounds). */
    private static void quarrelsWithinBounds() {
        Check.due("rent below 0", ruled("rent 0-5;rent 0-1;rent 0;").quarrel(0, 0, 0, 0), 0);
        Check.due("rent above", ruled("rent 1000*1001;rent 9999*9999;rent 1000*1000;").quarrel(0, 0, 0, 0), 0);
        Check.due("rent at the bound", ruled("rent 1000*1000-1;rent 1000*1001;").quarrel(0, 0, 0, 0), 1);
        Check.due("credit below 0", ruled("credit 1;credit 0-5;credit 0;").quarrel(5, 0, 0, 0), 1);
        Check.due("rank below 0", ruled("rank 0-5;rank 0-1;rank 0;").quarrel(4, 0, 0, 0), 2);
        Check.due("rank above", ruled("rank 1000*1000*1001;rank 1000*1000*1000;").quarrel(4, 0, 0, 0), 0);
    }

    /** Promise 12: 100 times the TEXT and the STATEMENT (numbered from 0 in the TEXT). */
    private static void lastTextAndStatement() {
        FirmTown x = Towns.of(1, 0);
        Towns.repeat(11, () -> Check.tell(x, 0, "rank 1;"));
        Check.tell(x, 0, "strike rent;keep;keep;keep;keep;keep;keep;keep;keep;rank 5;");
        Check.due("the last of the last", x.why(4, 0, 0, 0), 1109);
        Check.due("the last but one", x.why(3, 0, 0, 0), 1108);
        Check.due("the first of the first", ruled("rank 1;").why(4, 0, 0, 0), 0);
    }
}
