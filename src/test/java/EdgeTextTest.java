/** The edges that promises 7 to 10 and the words about TEXTS name. */
public final class EdgeTextTest {
    private static final String TEN = "keep;".repeat(10);
    private static final int BLANKS = 0x20202020;

    public static void main(String[] args) {
        tapeOfAtMost300();
        highestByteFirst();
        endOfTape();
        dayOfText();
        atMostTwelveTexts();
        emptyTape();
        textOf300Bytes();
        twelveFullTexts();
        atMostTenStatements();
        eleventhStatement();
        namesOfOneToEightLetters();
        numbersOfOneToFourDigits();
        numberOfMost();
        numberOfLeave();
        numberOfFine();
        lettersAndDigitsAmongBytes();
        blanks();
        wordsAsLongAsTheyStandTogether();
        theEnd();
        wordsWhereAFactorMustStand();
        fourBracketsAtOnce();
        firstFromTheLeft();
        ofOnePlaceTheLeast();
        faultChangesNothing();
        placeOfTheLatest();
        Check.close("EdgeTextTest");
    }

    private static void takes(String text) {
        FirmTown x = new FirmTown();
        Check.due(text, Check.tell(x, 0, text), 0);
        Check.due("place of " + text, x.place(), -1);
        Check.due("texts by " + text, x.count(3), 1);
    }

    private static void fault(int kind, int place, String text) {
        FirmTown x = new FirmTown();
        Check.due(text, Check.tell(x, 0, text), -1 - kind);
        Check.due("place of " + text, x.place(), place);
        Check.due("texts by " + text, x.count(3), 0);
        Check.due("tape behind " + text, x.count(10), 0);
    }

    private static int feedBlanks(FirmTown x) {
        return x.feed(BLANKS, BLANKS, BLANKS, BLANKS, BLANKS);
    }

    /** Promise 7: NONE if these would be more than 300. */
    private static void tapeOfAtMost300() {
        FirmTown x = new FirmTown();
        for (int n = 20; n <= 300; n += 20) {
            Check.due("feed", feedBlanks(x), n);
        }
        Check.due("feed to 320", feedBlanks(x), -1);
        Check.due("bytes", x.count(10), 300);
        x.end(281);
        Check.due("feed to 301", feedBlanks(x), -1);
        Check.due("bytes", x.count(10), 281);
        x.end(280);
        Check.due("feed to 300", feedBlanks(x), 300);
        x.end(0);
        Check.due("feed again", feedBlanks(x), 20);
    }

    /** Promise 7: of each number the highest first, also of a number below 0. */
    private static void highestByteFirst() {
        FirmTown x = new FirmTown();
        x.feed(0x6b656570, 0x3b6b6565, 0x703b6b65, 0x65703b0a, 0x20ffffff);
        x.end(17);
        Check.due("three statements", x.text(0), 0);
        x.feed(0x6b656570, 0x3b202020, 0x3b202020, 0, 0);
        Check.due("a sign behind blanks", x.text(0), -2);
        Check.due("its place", x.place(), 8);
        x.feed(0x6b656570, 0x3bffffff, -1, Integer.MIN_VALUE, Integer.MAX_VALUE);
        Check.due("byte 255", x.text(0), -2);
        Check.due("its place", x.place(), 5);
    }

    /** Promise 8: NONE if it has less, or n is below 0. */
    private static void endOfTape() {
        Edge.range("end", Edge.NONE, 0, 20, n -> {
            FirmTown x = new FirmTown();
            feedBlanks(x);
            return x.end(n);
        });
        FirmTown x = new FirmTown();
        feedBlanks(x);
        Check.due("all", x.end(20), 20);
        Check.due("one less", x.end(19), 19);
        Check.due("what was cut off", x.end(20), -1);
        Check.due("nothing", x.end(0), 0);
        Check.due("of nothing", x.end(1), -1);
    }

    /** Promise 9: NONE: no such DAY. */
    private static void dayOfText() {
        Edge.range("the DAY of a TEXT", Edge.NONE, 0, Towns.LAST_DAY, n -> new FirmTown().text(n));
    }

    /** Promise 9: NONE: twelve are there (the TAPE stays). */
    private static void atMostTwelveTexts() {
        FirmTown x = new FirmTown();
        Towns.repeat(12, () -> Check.tell(x, 0, "kee"));
        Check.due("a text with a fault is none", x.count(3), 0);
        for (int i = 0; i < 12; i++) {
            Check.due("text", Check.tell(x, 0, "fine a" + (char) ('a' + i) + " 1;"), i);
        }
        Check.due("the 13th", Check.tell(x, 0, "fine b 1;"), -1);
        Check.due("the tape stays", x.count(10), 9);
        x.end(4);
        Check.due("also with a fault", x.text(0), -1);
        Check.due("its place isn't told", x.place(), -1);
        Check.due("texts", x.count(3), 12);
        Check.due("names", x.count(4), 12);
    }

    private static void emptyTape() {
        takes("");
        takes(" ");
        takes("\n");
    }

    /** TEXTS of at most 300 bytes. */
    private static void textOf300Bytes() {
        takes(" ".repeat(300));
        takes("keep;" + " ".repeat(295));
        takes(" ".repeat(295) + "keep;");
        takes("rent " + "1+".repeat(146) + "1 ;");
        takes("keep if " + "not ".repeat(72) + "1=1;");
        takes("fine" + " ".repeat(292) + "a 1;");
        fault(1, 300, "keep" + " ".repeat(296));
        fault(1, 299, "keep;" + " ".repeat(294) + "-");
        fault(1, 5, "fine " + "a".repeat(295));
        fault(1, 5, "rent " + "1".repeat(295));
        fault(3, 5, "rent " + "a".repeat(295));
        fault(4, 9, "rent " + "(".repeat(295));
        fault(4, 12, "keep if " + "[".repeat(292));
        fault(1, 300, "keep if" + " not".repeat(73) + " ");
    }

    /** Twelve TEXTS of 300 bytes, and ahead of each one of 300 bytes with a FAULT at its end. */
    private static void twelveFullTexts() {
        FirmTown x = Towns.of(1, 0);
        for (int i = 0; i < 12; i++) {
            String head = "rank " + i + "+";
            int ones = (300 - head.length() - 2) / 2;
            String text = head + "1+".repeat(ones) + "1;";
            Check.due("a full text with a fault", Check.tell(x, i, "rank 2" + "+2".repeat(147)), -2);
            Check.due("its place", x.place(), 300);
            Check.due("a full text", Check.tell(x, i, text + " ".repeat(300 - text.length())), i);
        }
        for (int i = 0; i < 12; i++) {
            int ones = (300 - (i < 10 ? 7 : 8) - 2) / 2;
            Check.due("the sum of text " + i, x.value(4, 0, i, 0), i + ones + 1);
        }
    }

    /** {STATEMENT ;}, 10 at most. */
    private static void atMostTenStatements() {
        takes("keep;");
        takes("keep;".repeat(9));
        takes(TEN);
        takes(TEN + " \n ");
        takes("strike rent;".repeat(10));
        fault(4, 50, TEN + "keep;");
        fault(4, 120, "strike rent;".repeat(10) + "keep;");
    }

    /** FAULT 4: the first TOKEN of an 11th STATEMENT. */
    private static void eleventhStatement() {
        for (String first : new String[] {"rent", "most", "leave", "keep", "rank", "credit", "fine", "strike"}) {
            fault(4, 50, TEN + first);
            fault(4, 52, TEN + " \n" + first + " x");
        }
    }

    /** NAME: a word of 1 to 8 small letters, any. */
    private static void namesOfOneToEightLetters() {
        takes("fine a 1;");
        takes("fine z 1;");
        takes("fine abcdefgh 1;");
        takes("fine strike 1;fine fine 2;fine if 3;fine not 4;fine pay 5;");
        fault(1, 5, "fine abcdefghi 1;");
        fault(1, 6, "fine  abcdefghijklmnopqrstuvwxyz 1;");
        fault(1, 5, "fine 1;");
        fault(1, 5, "fine A 1;");
        fault(1, 6, "fine aB 1;");
        FirmTown x = new FirmTown();
        Check.tell(x, 0, "fine abcdefgh 1;fine abcdefg 2;fine a 3;fine h 4;fine abcdefgh 5;");
        Check.due("names", x.count(4), 4);
    }

    /** N: 1 to 4 digits (FAULT 1: more than 4 digits, at the first byte). */
    private static void numbersOfOneToFourDigits() {
        for (String head : new String[] {"rent ", "rent 1+", "rent 2*(", "keep if ", "keep if 1<", "credit "}) {
            String tail = head.endsWith("(") ? ");" : head.endsWith(" if ") ? "=1;" : ";";
            for (String n : new String[] {"0", "9", "0000", "9999"}) {
                takes(head + n + tail);
            }
            fault(1, head.length(), head + "00000" + tail);
            fault(1, head.length(), head + "10000" + tail);
            fault(1, head.length(), head + "4294967296" + tail);
        }
    }

    /** Of most 0 to 100 (FAULT 2: an N that can't be). */
    private static void numberOfMost() {
        takes("most 0;");
        takes("most 100;");
        takes("most 0100;");
        fault(2, 5, "most 101;");
        fault(2, 5, "most 9999;");
        fault(1, 5, "most 00100;");
        fault(1, 4, "most;");
    }

    /** Of leave 0 to 99. */
    private static void numberOfLeave() {
        takes("leave 0;");
        takes("leave 99;");
        takes("leave 0099;");
        fault(2, 6, "leave 100;");
        fault(2, 6, "leave 9999;");
        fault(1, 6, "leave 00099;");
    }

    /** Of fine 1 to 9999. */
    private static void numberOfFine() {
        takes("fine a 1;");
        takes("fine a 9999;");
        takes("fine a 0001;");
        fault(2, 7, "fine a 0;");
        fault(2, 7, "fine a 0000;");
        fault(1, 7, "fine a 00000;");
        fault(1, 7, "fine a 10000;");
    }

    /** Words are of small letters, N of digits: the bytes next to these are signs. */
    private static void lettersAndDigitsAmongBytes() {
        fault(1, 6, "fine a` 1;");
        fault(1, 6, "fine a{ 1;");
        fault(1, 5, "fine ` 1;");
        fault(1, 5, "fine { 1;");
        fault(1, 6, "rent 1/;");
        fault(1, 6, "rent 1:;");
        fault(1, 5, "rent /;");
        fault(1, 5, "rent :;");
        fault(1, 0, "`");
        fault(1, 0, "{");
    }

    /** Blanks (32, 10) between TOKENS where one likes. */
    private static void blanks() {
        takes(" \n keep \n if\n not [ 1 + 2 * ( 3 - pay ) < 9\n]\n;\n ");
        for (int sign : new int[] {0, 9, 11, 13, 31, 33, 127, 128, 160, 255}) {
            fault(1, 5, "keep;" + (char) sign);
            fault(1, 4, "keep" + (char) sign + ";");
        }
        fault(1, 0, "ke ep;");
        fault(1, 7, "rent 1 2;");
        fault(1, 7, "fine a b 1;");
    }

    /** Words: small letters, as many as stand together. */
    private static void wordsAsLongAsTheyStandTogether() {
        takes("rent1if 1=1;");
        takes("rent 1if1=1or 2=2and not[3=3];");
        takes("fine a1;");
        fault(1, 0, "rentpay;");
        fault(1, 0, "keepif 1=1;");
        fault(1, 5, "keep ifnot 1=1;");
        fault(3, 5, "rent paypay;");
        fault(1, 12, "keep if 1=1 oror 1=1;");
    }

    /** FAULT 1: the end, at how many bytes there are. */
    private static void theEnd() {
        String[] open = {"rent", "rent ", "rent 1", "rent 1+", "rent (", "rent (1", "most", "most 1", "leave",
            "leave 1", "keep", "keep \n", "keep if", "keep if not", "keep if [", "keep if [1=1", "keep if 1",
            "keep if 1=", "keep if 1=1", "keep if 1=1 or", "keep if 1=1 and", "rank", "credit", "fine", "fine a",
            "fine a 1", "strike", "strike keep"};
        for (String text : open) {
            fault(1, text.length(), text);
            fault(1, text.length() + 5, "keep;" + text);
        }
    }

    /** FAULT 3: any word where a FACTOR must stand that is no WORD. */
    private static void wordsWhereAFactorMustStand() {
        String[] heads = {"rent ", "rank 1+", "rank 1-", "credit 2*", "rent (", "keep if 1=", "keep if (",
            "most 1 if 1<", "keep if 1=1 and 2>"};
        String[] words = {"a", "rent", "strike", "if", "or", "and", "not", "room", "roomss", "abcdefghi"};
        for (String head : heads) {
            for (String word : words) {
                fault(3, head.length(), head + word + " 1;");
            }
        }
        for (String word : new String[] {"rooms", "size", "heads", "age", "pay", "weeks", "day", "saved",
            "debt", "arrears"}) {
            takes("rent " + word + ";");
        }
    }

    /** FAULT 4: a 5th bracket (of both sorts together) that is open at once. */
    private static void fourBracketsAtOnce() {
        takes("rent ((((1))));");
        takes("keep if [[[[1=1]]]];");
        takes("keep if [[[(1)=1]]];");
        takes("keep if [[((1))=((1))]];");
        takes("keep if [(((1)))=1];");
        takes("rent (1)+(2)*(3)-(4)+(5)+(6);");
        takes("keep if [1=1]or[1=1]and[1=1]or[1=1]and[1=1];");
        takes("rent ((((1))));rent ((((1))));");
        takes("rent (((1)+(2))*((3)-(4)));");
        fault(4, 9, "rent (((((1)))));");
        fault(4, 12, "keep if [[[[[1=1]]]]];");
        fault(4, 12, "keep if [[[[(1)=1]]]];");
        fault(4, 14, "keep if [[((1+(1)))=1]];");
        fault(4, 14, "keep if [[[[1=(1)]]]];");
        fault(4, 12, "keep if [((((1))))=1];");
        fault(4, 25, "keep if [[[[1=1]]]]or[[[[[1=1]]]]];");
        fault(4, 14, "rent (((( 1+  (1)))));");
    }

    /** FAULTS, the first from the left. */
    private static void firstFromTheLeft() {
        fault(2, 5, "most 101;rent x;keep keep;");
        fault(3, 5, "rent x;most 101;");
        fault(1, 5, "keep keep;most 101;rent x;");
        fault(4, 9, "rent (((((x)))));");
        fault(3, 9, "rent ((((x");
        fault(2, 11, "keep;leave 100;" + TEN);
        fault(1, 7, "rent 1**2");
        fault(1, 7, "rent 1**x;");
        fault(1, 7, "rent 1+*x;");
        fault(1, 7, "rent 1+-2");
        fault(1, 10, "keep if 1==x;");
        fault(1, 15, "keep if [[1=1]]]x;");
        fault(3, 16, "keep if 1=1 and and x");
        fault(3, 15, "keep if 1=1 or or x");
    }

    /** Of one place the least. */
    private static void ofOnePlaceTheLeast() {
        fault(1, 5, "most 99999;");
        fault(1, 7, "fine a 00000;");
        fault(1, 50, TEN + "x");
        fault(1, 50, TEN + "1;");
        fault(1, 50, TEN + ";");
        fault(1, 14, "keep if [[[[1=[1=1]]]]];");
        fault(1, 9, "rent ((((]");
        fault(1, 9, "rent ((((99999))));");
    }

    /** A text with a FAULT changes nothing. */
    private static void faultChangesNothing() {
        FirmTown x = Towns.of(1, 0);
        Check.tell(x, 0, "rent 5;fine a 1;");
        Check.due("a fault at the end", Check.tell(x, 0, "strike rent;strike fine;fine b 2;keep"), -2);
        Check.due("texts", x.count(3), 1);
        Check.due("names", x.count(4), 1);
        Check.due("rent", x.value(0, 0, 0, 0), 5);
        Check.due("fine", x.fineOf(0, 0, 0, 0), 1);
        Check.due("keep", x.value(3, 0, 0, 0), 0);
        Check.due("the next text", Check.tell(x, 0, "fine c 3;"), 1);
        Check.due("names", x.count(4), 2);
        Check.due("fine c", x.fineOf(1, 0, 0, 0), 3);
    }

    /** Promise 10: of the latest text() that was not NONE; NONE without one. */
    private static void placeOfTheLatest() {
        FirmTown x = new FirmTown();
        Check.due("no text yet", x.place(), -1);
        Check.feed(x, "x");
        Check.due("no such day", x.text(10000), -1);
        Check.due("none yet", x.place(), -1);
        Check.due("a fault", x.text(0), -2);
        Check.due("at the first byte", x.place(), 0);
        Check.feed(x, "keep;x");
        Check.due("no such day", x.text(-1), -1);
        Check.due("the earlier one's", x.place(), 0);
        Check.due("a fault", x.text(0), -2);
        Check.due("the later one's", x.place(), 5);
        Check.due("a text", Check.tell(x, 0, "keep;"), 0);
        Check.due("none", x.place(), -1);
        Check.due("a fault again", Check.tell(x, 0, "keep"), -2);
        Towns.repeat(11, () -> Check.tell(x, 0, ""));
        Check.due("none", x.place(), -1);
    }
}
