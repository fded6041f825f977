/** Promises 11 to 14: THE RULES, by which they are, quarrels, and fines. */
public final class RuleTest {
    public static void main(String[] args) {
        without();
        bounds();
        wrong();
        words();
        order();
        lastInText();
        strikes();
        known();
        quarrels();
        fines();
        manyNames();
        ofWhom();
        Check.close("RuleTest");
    }

    private static void without() {
        FirmTown x = new FirmTown();
        x.person(2, 30);
        int[] due = {0, 100, 7, 0, 0, 0};
        for (int kind = 0; kind <= 5; kind++) {
            Check.due("value", x.value(kind, 0, 9999, 0), due[kind]);
            Check.due("why", x.why(kind, 0, 9999, 0), -1);
            Check.due("quarrel", x.quarrel(kind, 0, 9999, 0), 0);
        }
    }

    private static void bounds() {
        FirmTown x = new FirmTown();
        x.person(2, 30);
        Check.tell(x, 0, "rent 1-2;credit 9999*9999;rank 1-2;keep;most 0;leave 99;");
        int[] due = {0, 0, 99, 1, -1, 1000000};
        for (int kind = 0; kind <= 5; kind++) {
            Check.due("value", x.value(kind, 0, 0, 0), due[kind]);
        }
        Check.tell(x, 0, "credit 1-2;rent 1000*1000+1;rank 1000*1000+1;");
        Check.due("credit", x.value(5, 0, 0, 0), 0);
        Check.due("rent", x.value(0, 0, 0, 0), 1000000);
        Check.due("rank", x.value(4, 0, 0, 0), 1000001);
        Check.tell(x, 0, "rent 1000*1000-1;");
        Check.due("rent", x.value(0, 0, 0, 0), 999999);
    }

    private static void wrong() {
        FirmTown x = new FirmTown();
        x.person(2, 30);
        Check.tell(x, 0, "keep;fine a 5;");
        x.days(2);
        int[][] calls = {{-1, 0, 0, 0}, {6, 0, 0, 0}, {7, 0, 0, 0}, {3, -1, 0, 0}, {3, 1, 0, 0},
            {3, 0, -1, 0}, {3, 0, 10000, 0}, {3, 0, 0, -1}, {3, 0, 0, 3}};
        for (int[] c : calls) {
            Check.dueNoValue(x, c[0], c[1], c[2], c[3]);
            Check.due("why", x.why(c[0], c[1], c[2], c[3]), -1);
            Check.due("quarrel", x.quarrel(c[0], c[1], c[2], c[3]), -1);
            int name = c[0] == 3 ? 0 : c[0] < 0 ? c[0] : 1;
            Check.due("fineOf", x.fineOf(name, c[1], c[2], c[3]), -1);
        }
        Check.due("value", x.value(3, 0, 9999, 2), 1);
        Check.due("fineOf", x.fineOf(0, 0, 9999, 2), 5);
    }

    private static void words() {
        FirmTown x = new FirmTown();
        x.person(3, 44);
        x.house(4, 2);
        word(x, "rooms", 20, 0);
        word(x, "size", 20, 0);
        word(x, "pay", 20, 0);
        word(x, "weeks", 20, 0);
        x.days(2);
        x.post(0, 17);
        x.asks(0);
        x.give(0);
        word(x, "rooms", 20, 4);
        word(x, "size", 20, 2);
        word(x, "heads", 20, 3);
        word(x, "age", 20, 44);
        word(x, "pay", 20, 17);
        Check.due("texts", x.count(3), 9);
        word(x, "day", 20, 20);
        word(x, "weeks", 15, 1);
        Check.due("weeks of day 16", x.value(4, 0, 16, 2), 2);
        Check.due("weeks of day 22", x.value(4, 0, 22, 2), 2);
        Check.due("weeks of day 8", x.value(4, 0, 8, 2), 0);
        Check.due("weeks ahead of the post", x.value(4, 0, 1, 2), 0);
        coinWords();
    }

    private static void coinWords() {
        FirmTown x = new FirmTown();
        x.person(3, 44);
        x.house(4, 2);
        x.post(0, 10);
        x.asks(0);
        x.give(0);
        Check.tell(x, 0, "rent 70;credit 500;most 50;fine a 9;");
        x.club(0, 25);
        x.hours(0, 0, 20);
        x.days(7);
        x.good(0, 100, 90, 10);
        x.buys(0, 0, 4);
        Check.due("saved", x.of(0, 3), 25);
        Check.due("debt", x.of(0, 4), 400);
        x.days(7);
        Check.due("arrears", x.of(0, 6), 70);
        word(x, "saved", 3, 25);
        word(x, "debt", 3, 400);
        word(x, "arrears", 3, 70);
    }

    /** Tells a TEXT that ranks by a WORD, and asks for the rank of PERSON 0 on a DAY. */
    private static void word(FirmTown x, String word, int day, int due) {
        Check.tell(x, 0, "rank " + word + ";");
        Check.due(word, x.value(4, 0, day, x.count(2)), due);
    }

    private static void order() {
        FirmTown x = new FirmTown();
        x.person(2, 30);
        Check.tell(x, 20, "rank 1;");
        Check.tell(x, 10, "rank 2;");
        Check.tell(x, 20, "rank 3 if day<30;");
        Check.tell(x, 5, "rank 4;");
        ruled(x, 4, 0, -1);
        ruled(x, 5, 4, 300);
        ruled(x, 9, 4, 300);
        ruled(x, 10, 2, 100);
        ruled(x, 19, 2, 100);
        ruled(x, 20, 3, 200);
        ruled(x, 29, 3, 200);
        ruled(x, 30, 1, 0);
    }

    private static void ruled(FirmTown x, int day, int value, int why) {
        Check.due("rank on " + day, x.value(4, 0, day, 0), value);
        Check.due("why on " + day, x.why(4, 0, day, 0), why);
    }

    private static void lastInText() {
        FirmTown x = new FirmTown();
        x.person(2, 30);
        Check.tell(x, 0, "keep;rank 1;rank 2;rank 3 if age>30;most 3;");
        ruled(x, 0, 2, 2);
        Check.due("why most", x.why(1, 0, 0, 0), 4);
        Check.due("why keep", x.why(3, 0, 0, 0), 0);
    }

    private static void strikes() {
        FirmTown x = new FirmTown();
        x.person(2, 30);
        Check.tell(x, 5, "rank 1;fine a 4;fine b 5;most 40;");
        Check.tell(x, 10, "rank 2 if age=99;strike rank;");
        Check.tell(x, 20, "strike fine;fine b 7;");
        Check.tell(x, 30, "strike keep;strike most;rank 8;");
        ruled(x, 5, 1, 0);
        ruled(x, 10, 0, -1);
        ruled(x, 30, 8, 302);
        Check.due("struck is of one kind alone", x.value(1, 0, 29, 0), 40);
        Check.due("struck most", x.value(1, 0, 30, 0), 100);
        Check.due("fine a", x.fineOf(0, 0, 19, 0), 4);
        Check.due("fine a struck", x.fineOf(0, 0, 20, 0), 0);
        Check.due("fine b", x.fineOf(1, 0, 19, 0), 5);
        Check.due("fine b behind the strike", x.fineOf(1, 0, 20, 0), 7);
        strikeInOrder();
    }

    private static void strikeInOrder() {
        FirmTown x = new FirmTown();
        x.person(2, 30);
        Check.tell(x, 5, "rank 1;strike rank;");
        Check.tell(x, 3, "strike rank;rank 2;");
        Check.tell(x, 5, "rank 3 if day>7;");
        ruled(x, 4, 2, 101);
        ruled(x, 5, 1, 0);
        ruled(x, 8, 3, 200);
        Check.due("quarrel", x.quarrel(4, 0, 8, 0), 1);
        x.days(1);
        Check.tell(x, 4, "strike rank;");
        Check.due("a strike ahead takes away nothing behind it", x.value(4, 0, 5, 1), 1);
        Check.due("but what is ahead of it", x.value(4, 0, 4, 1), 0);
        Check.due("as it was known", x.value(4, 0, 4, 0), 2);
    }

    private static void known() {
        FirmTown x = new FirmTown();
        x.person(2, 30);
        Check.tell(x, 0, "rank 1;");
        x.days(3);
        Check.tell(x, 0, "rank 2;");
        x.days(2);
        Check.tell(x, 0, "strike rank;");
        int[] due = {1, 1, 1, 2, 2, 0};
        int[] why = {0, 0, 0, 100, 100, -1};
        for (int k = 0; k <= 5; k++) {
            Check.due("value as known on " + k, x.value(4, 0, 0, k), due[k]);
            Check.due("why as known on " + k, x.why(4, 0, 0, k), why[k]);
        }
    }

    private static void quarrels() {
        FirmTown x = new FirmTown();
        x.person(2, 30);
        Check.tell(x, 0, "rent 5;rent 6;rent 5 if age>30;rent 7 if age=30;rent 0-3;rent 0;");
        Check.due("rent", x.value(0, 0, 0, 0), 0);
        Check.due("quarrel", x.quarrel(0, 0, 0, 0), 3);
        Check.tell(x, 1, "rent 6;keep;keep;");
        Check.due("quarrel", x.quarrel(0, 0, 1, 0), 4);
        Check.due("quarrel of keep", x.quarrel(3, 0, 1, 0), 0);
        Check.tell(x, 2, "rent 8;strike rent;rent 9;");
        Check.due("quarrel of what is left", x.quarrel(0, 0, 2, 0), 1);
        Check.due("quarrel of another day", x.quarrel(0, 0, 1, 0), 4);
        Check.tell(x, 3, "credit 1000*1000;credit 1000*1001;rank 1000*1000;rank 1000*1001;");
        Check.due("quarrel within bounds", x.quarrel(5, 0, 3, 0), 0);
        Check.due("quarrel without bounds", x.quarrel(4, 0, 3, 0), 1);
    }

    private static void fines() {
        FirmTown x = new FirmTown();
        x.person(2, 30);
        x.person(5, 50);
        Check.due("no name", x.fineOf(0, 0, 0, 0), -1);
        Check.tell(x, 0, "fine late 3;fine drunk 4 if heads>4;fine late 5 if age>40;fine lat 9;");
        Check.due("names", x.count(4), 3);
        Check.due("late", x.fineOf(0, 0, 0, 0), 3);
        Check.due("late", x.fineOf(0, 1, 0, 0), 5);
        Check.due("drunk", x.fineOf(1, 0, 0, 0), 0);
        Check.due("drunk", x.fineOf(1, 1, 0, 0), 4);
        Check.due("lat", x.fineOf(2, 1, 0, 0), 9);
        Check.due("another", x.fineOf(3, 1, 0, 0), -1);
        Check.tell(x, 0, "fine drunk 1;fine new 2;");
        Check.due("names", x.count(4), 4);
        Check.due("drunk", x.fineOf(1, 0, 0, 0), 1);
        Check.due("new", x.fineOf(3, 0, 0, 0), 2);
        Check.due("new on another day", x.fineOf(3, 0, 9999, 0), 2);
    }

    /** Twelve TEXTS with ten NAMES each. */
    private static void manyNames() {
        FirmTown x = new FirmTown();
        x.person(2, 30);
        for (char t = 'a'; t < 'a' + 12; t++) {
            StringBuilder text = new StringBuilder();
            for (char s = 'a'; s < 'a' + 10; s++) {
                text.append("fine ").append(t).append("bcdefg").append(s);
                text.append(' ').append(10 * (t - 'a') + s - 'a' + 1).append(';');
            }
            Check.due("text", Check.tell(x, 0, text.toString()), t - 'a');
        }
        Check.due("names", x.count(4), 120);
        for (int name = 0; name < 120; name++) {
            Check.due("fine", x.fineOf(name, 0, 0, 0), name + 1);
        }
    }

    private static void ofWhom() {
        FirmTown x = new FirmTown();
        x.person(2, 30);
        x.person(2, 50);
        Check.tell(x, 0, "rank age;rank 30 if age=50;fine a 1 if age=50;");
        Check.due("value", x.value(4, 0, 0, 0), 30);
        Check.due("why", x.why(4, 1, 0, 0), 1);
        Check.due("value", x.value(4, 0, 0, 0), 30);
        Check.due("quarrel", x.quarrel(4, 1, 0, 0), 1);
        Check.due("quarrel", x.quarrel(4, 0, 0, 0), 0);
        Check.due("fineOf", x.fineOf(0, 1, 0, 0), 1);
        Check.due("why", x.why(4, 0, 0, 0), 0);
        Check.due("fineOf", x.fineOf(0, 0, 0, 0), 0);
    }
}
