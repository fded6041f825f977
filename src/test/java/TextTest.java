/** Promises 7 to 10: the TAPE, and how it is read as a TEXT. */
public final class TextTest {
    public static void main(String[] args) {
        tape();
        textNumbers();
        taken();
        unfit();
        wrongNumbers();
        noWords();
        tooMany();
        places();
        fullTape();
        sums();
        conds();
        Check.close("TextTest");
    }

    private static void tape() {
        FirmTown x = new FirmTown();
        Check.due("feed", x.feed(0x6b656570, 0x3b202020, 0, 0, 0), 20);
        Check.due("feed", x.feed(1, 2, 3, 4, 5), 40);
        Check.due("end -1", x.end(-1), -1);
        Check.due("end 41", x.end(41), -1);
        Check.due("end 40", x.end(40), 40);
        Check.due("end 8", x.end(8), 8);
        Check.due("end 9 of 8", x.end(9), -1);
        Check.due("bytes", x.count(10), 8);
        Check.due("text", x.text(0), 0);
        Check.due("bytes behind a text", x.count(10), 0);
        for (int i = 1; i <= 15; i++) {
            Check.due("feed", x.feed(0x20202020, 0x20202020, 0x20202020, 0x20202020, 0x20202020), 20 * i);
        }
        Check.due("feed above 300", x.feed(0, 0, 0, 0, 0), -1);
        Check.due("bytes", x.count(10), 300);
        Check.due("end 281", x.end(281), 281);
        Check.due("feed above 300 by one", x.feed(0, 0, 0, 0, 0), -1);
        Check.due("end 280", x.end(280), 280);
        Check.due("feed to 300", x.feed(0x20202020, 0x20202020, 0x20202020, 0x20202020, 0x20202020), 300);
        Check.due("300 blanks", x.text(0), 1);
        Check.due("end of nothing", x.end(0), 0);
    }

    private static void textNumbers() {
        FirmTown x = new FirmTown();
        Check.feed(x, "keep;");
        Check.due("day -1", x.text(-1), -1);
        Check.due("day 10000", x.text(10000), -1);
        Check.due("the tape stays", x.count(10), 5);
        Check.due("day 9999", x.text(9999), 0);
        for (int i = 1; i < 12; i++) {
            Check.due("an empty text", x.text(0), i);
        }
        Check.feed(x, "kee");
        Check.due("the 13th", x.text(0), -1);
        Check.due("the tape stays", x.count(10), 3);
        Check.due("place stays", x.place(), -1);
        Check.due("texts", x.count(3), 12);
    }

    private static void taken() {
        FirmTown x = new FirmTown();
        take(x, "rent 1;most 0;leave 0;keep;rank 2;credit 3;fine a 1;strike rent;");
        take(x, " \n rent1;most\n100 ;leave99;fine abcdefgh 9999;fine if 1;fine rent 2;");
        take(x, "strike rent;strike most;strike leave;strike keep;strike rank;strike credit;strike fine;");
        take(x, "rent rooms+size-heads*age+pay-weeks+day-saved*debt+arrears;");
        take(x, "rent 0000+9999 if 1<2 or 2>1 and 3=3 or not not not 1=2;");
        take(x, "keep if not[not[1=2 and[2=3 or[1=1]]]];");
        take(x, "keep if ((((1))))=((1)+(2))*3;");
        take(x, "keep if [[[(1)=1]]]and[1=2];");
        take(x, "keep;keep;keep;keep;keep;keep;keep;keep;keep;keep;");
        take(x, "rent 1if 1=1;rent pay if day=1;");
        Check.due("names", x.count(4), 4);
    }

    private static void take(FirmTown x, String text) {
        int number = x.count(3);
        Check.due(text, Check.tell(x, 0, text), number);
        Check.due("place of " + text, x.place(), -1);
    }

    private static void unfit() {
        refuse("x", -2, 0);
        refuse("ren", -2, 0);
        refuse("rents 1;", -2, 0);
        refuse(";", -2, 0);
        refuse("keep;;", -2, 5);
        refuse("keep", -2, 4);
        refuse("keep  ", -2, 6);
        refuse("keep 1;", -2, 5);
        refuse("Keep;", -2, 0);
        refuse("keep;\t", -2, 5);
        refuse("keep;\u00e9", -2, 5);
        refuse("keep;\0", -2, 5);
        refuse("rent;", -2, 4);
        refuse("rent -1;", -2, 5);
        refuse("rent 1 2;", -2, 7);
        refuse("rent 12345;", -2, 5);
        refuse("rent 00001;", -2, 5);
        refuse("rent [1];", -2, 5);
        refuse("rent (1;", -2, 7);
        refuse("rent (1];", -2, 7);
        refuse("rent 1);", -2, 6);
        refuse("rent 1*;", -2, 7);
        refuse("most pay;", -2, 5);
        refuse("most 1+1;", -2, 6);
        refuse("most (1);", -2, 5);
        refuse("leave 12345;", -2, 6);
        refuse("keep if;", -2, 7);
        refuse("keep if 1;", -2, 9);
        refuse("keep if 1=;", -2, 10);
        refuse("keep if 1=2=3;", -2, 11);
        refuse("keep if 1<=2;", -2, 10);
        refuse("keep if [1=2;", -2, 12);
        refuse("keep if [1=2);", -2, 12);
        refuse("keep if (1=2);", -2, 10);
        refuse("keep if 1=1 if 1=1;", -2, 12);
        refuse("keep if 1=1 not 1=1;", -2, 12);
        refuse("keep if [1=1]=1;", -2, 13);
        refuse("keep if 1=[1=1];", -2, 10);
        refuse("fine 1;", -2, 5);
        refuse("fine a;", -2, 6);
        refuse("fine a b;", -2, 7);
        refuse("fine abcdefghi 0;", -2, 5);
        refuse("fine a 12345;", -2, 7);
        refuse("strike;", -2, 6);
        refuse("strike strike;", -2, 7);
        refuse("strike pay;", -2, 7);
        refuse("strike rent if 1=1;", -2, 12);
        refuse("strike rent", -2, 11);
    }

    private static void wrongNumbers() {
        refuse("most 101;", -3, 5);
        refuse("most 9999;", -3, 5);
        refuse("most 101", -3, 5);
        refuse("leave 100;", -3, 6);
        refuse("fine a 0;", -3, 7);
        refuse("fine a 0000 x", -3, 7);
        refuse("most 0101;", -3, 5);
        refuse("keep;leave 0100;", -3, 11);
    }

    private static void noWords() {
        refuse("rent x;", -4, 5);
        refuse("rent if 1=1;", -4, 5);
        refuse("rent not;", -4, 5);
        refuse("rent room;", -4, 5);
        refuse("rent abcdefghijk;", -4, 5);
        refuse("rent pays;", -4, 5);
        refuse("rent 1+rent;", -4, 7);
        refuse("rent 1*(pay-x);", -4, 12);
        refuse("keep if if 1=1;", -4, 8);
        refuse("keep if and;", -4, 8);
        refuse("keep if not or;", -4, 12);
        refuse("keep if 1=not;", -4, 10);
        refuse("keep if (not 1)=1;", -4, 9);
        refuse("keep if 1=1 and keep;", -4, 16);
        refuse("credit fine;", -4, 7);
    }

    private static void tooMany() {
        String ten = "keep;keep;keep;keep;keep;keep;keep;keep;keep;keep;";
        refuse(ten + " keep;", -5, 51);
        refuse(ten + "rent", -5, 50);
        refuse(ten + "strike", -5, 50);
        refuse(ten + "x;", -2, 50);
        refuse(ten + "1", -2, 50);
        refuse(ten + ";", -2, 50);
        refuse(ten + "if", -2, 50);
        refuse("rent (((((1)))));", -5, 9);
        refuse("keep if [[[[[1=1]]]]];", -5, 12);
        refuse("keep if [[((1)+(((1))))=1]];", -5, 16);
        refuse("keep if [[[[ (1)=1]]]];", -5, 13);
        refuse("keep if [[[[1=[", -2, 14);
        refuse("rent ((((+", -2, 9);
    }

    private static void refuse(String text, int answer, int place) {
        FirmTown x = new FirmTown();
        x.person(2, 30);
        Check.due(text, Check.tell(x, 0, text), answer);
        Check.due("place of " + text, x.place(), place);
        Check.due("tape behind " + text, x.count(10), 0);
        Check.due("texts behind " + text, x.count(3), 0);
        Check.due("names behind " + text, x.count(4), 0);
        Check.due("keep behind " + text, x.value(3, 0, 0, 0), 0);
    }

    private static void places() {
        FirmTown x = new FirmTown();
        Check.due("place at first", x.place(), -1);
        Check.tell(x, 0, "fine a 1;fine b 2;rent ");
        Check.due("place", x.place(), 23);
        Check.due("names of a refused one", x.count(4), 0);
        Check.feed(x, "keep");
        Check.due("no day", x.text(-1), -1);
        Check.due("place stays", x.place(), 23);
        Check.due("text", x.text(0), -2);
        Check.due("place", x.place(), 4);
        Check.due("text", Check.tell(x, 0, "keep;"), 0);
        Check.due("place of a taken one", x.place(), -1);
    }

    private static void fullTape() {
        FirmTown x = new FirmTown();
        x.person(2, 30);
        take(x, "rank1" + "+1".repeat(147) + ";");
        Check.due("a sum of 148", x.value(4, 0, 0, 0), 148);
        take(x, "keep if not " + "not ".repeat(70) + "1=2;");
        Check.due("many nots", x.value(3, 0, 0, 0), 1);
        take(x, "keep if " + "1=2or ".repeat(30) + "1=1 and" + " 1=1and".repeat(8) + " 2=2;");
        Check.due("many parts", x.value(3, 0, 0, 0), 1);
        refuse("rank1" + "+1".repeat(147) + "+", -2, 300);
        refuse("keep;" + " ".repeat(294) + "x", -2, 299);
        refuse("keep" + " ".repeat(296), -2, 300);
        refuse(";".repeat(300), -2, 0);
    }

    private static void sums() {
        rank("1+2*3", 7);
        rank("(1+2)*3", 9);
        rank("10-3-2", 5);
        rank("10-(3-2)", 9);
        rank("10-3+2", 9);
        rank("2-5", -3);
        rank("2*3*4-5*6", -6);
        rank("9999*9999", 99980001);
        rank("9999*9999*9999", 1000000000);
        rank("9999*9999*9999-1", 999999999);
        rank("0-9999*9999*9999", -1000000000);
        rank("0-9999*9999*9999-1+2", -999999998);
        rank("9999*9999*20-9999*9999*20", 0);
        rank("(0-9999)*9999*9999", -1000000000);
        rank("(0-9999)*9999*9999*(0-9999)", 1000000000);
        rank("9999*9999*10+9999*9999*10", 1000000000);
    }

    private static void rank(String sum, int due) {
        FirmTown x = new FirmTown();
        x.person(2, 30);
        Check.tell(x, 0, "rank " + sum + ";");
        Check.due("rank " + sum, x.value(4, 0, 0, 0), due);
    }

    private static void conds() {
        holds("1=1", true);
        holds("1=2", false);
        holds("1<2", true);
        holds("2<1", false);
        holds("1<1", false);
        holds("2>1", true);
        holds("1>2", false);
        holds("1>1", false);
        holds("not 1=1", false);
        holds("not not 1=1", true);
        holds("not not not 1=1", false);
        holds("1=1 or 1=2", true);
        holds("1=2 or 1=1", true);
        holds("1=2 or 1=2", false);
        holds("1=1 and 1=2", false);
        holds("1=1 and 1=1", true);
        holds("1=1 or 1=1 and 1=2", true);
        holds("[1=1 or 1=1] and 1=2", false);
        holds("1=2 and 1=2 or 1=1", true);
        holds("1=2 and [1=2 or 1=1]", false);
        holds("not 1=1 or 1=1", true);
        holds("not [1=1 or 1=1]", false);
        holds("not 1=2 and 1=2", false);
        holds("not [1=2 and 1=2]", true);
        holds("1+1=2", true);
        holds("0-1<0", true);
        holds("heads=2 and age=30", true);
    }

    private static void holds(String cond, boolean due) {
        FirmTown x = new FirmTown();
        x.person(2, 30);
        Check.tell(x, 0, "keep if " + cond + ";");
        Check.due("keep if " + cond, x.value(3, 0, 0, 0), due ? 1 : 0);
        Check.due("why keep if " + cond, x.why(3, 0, 0, 0), due ? 0 : -1);
    }
}
