/** Promises 6 to 8: feed, text, force. */
public final class TextsTest {
    private static final Due due = new Due();
    private static final String TAIL = ";takes 1;value 1;";

    public static void main(String[] args) {
        feed();
        values();
        faults();
        openings();
        fullOfTexts();
        force();
        due.end();
    }

    /** Promise 6. */
    private static void feed() {
        OpenWhileItRains x = new OpenWhileItRains();
        due.is("feed(-1)", x.feed(-1), -2);
        due.is("feed(256)", x.feed(256), -2);
        due.is("feed(min)", x.feed(Integer.MIN_VALUE), -2);
        due.is("none came", x.count(4), 0);
        for (int i = 1; i <= 160; i++) {
            due.is("feed " + i, x.feed(i == 1 ? 0 : i == 2 ? 255 : 32), i);
        }
        due.is("the 161st", x.feed(32), -4);
        due.is("a bad 161st", x.feed(256), -2);
        due.is("how many", x.count(4), 160);
        due.is("a byte that begins none", x.text(), -100);
        due.is("empty then", x.count(4), 0);
    }

    private static void value(String e, int want) {
        OpenWhileItRains x = new OpenWhileItRains();
        x.bargain(0, 6, 1);
        x.set(0, 0, 2);
        due.is("reading " + e, Due.text(x, "needs 1;takes 1;value " + e + ";"), 1);
        due.is("the rule was", x.force(1), 0);
        due.is(e, x.asks(0, 4, 3), want);
    }

    /** Promise 7: what a text means. */
    private static void values() {
        value("7", 7);
        value("0042", 42);
        value("number", 6);
        value("2+3*4", 14);
        value("(2+3)*4", 20);
        value("20-3-4", 13);
        value("20-(3-4)", 21);
        value("2*3*4", 24);
        value("--9", 9);
        value("10--9", 19);
        value("-2*-3", 6);
        value("5+-3", 2);
        value("5<6", 1);
        value("6<5", 0);
        value("5<5", 0);
        value("5=5", 1);
        value("5=6", 0);
        value("1+1=2", 1);
        value("2<1+2", 1);
        value("not 0", 1);
        value("not 7", 0);
        value("not not 7", 1);
        value("not 1=2", 1);
        value("not 0 and 0", 0);
        value("7 and 2", 1);
        value("7 and 0", 0);
        value("0 or 5", 1);
        value("0 or 0", 0);
        value("1 or 1 and 0", 1);
        value("(1 or 1) and 0", 0);
        value("0 and 0 or 1", 1);
        value("(5)", 5);
        value("hour*10+number-street+west", 47);
        value("hour<5 and rain<1", 1);
        // 9999 * 9999 = 99980001, by 43 it is 4299140043 and, wrapped, 4172747
        value("9999*9999*43 = 4172*1000+747", 1);
        value("0-9999*9999*22 < 0", 0);
    }

    private static void fault(String tape, int place) {
        OpenWhileItRains x = new OpenWhileItRains();
        due.is("fault of " + tape, Due.text(x, tape), -100 - place);
        due.is("no text more by " + tape, x.count(3), 1);
        due.is("the tape is empty behind " + tape, x.count(4), 0);
    }

    private static void read(String tape) {
        OpenWhileItRains x = new OpenWhileItRains();
        due.is("reading " + tape, Due.text(x, tape), 1);
        due.is("a text more by " + tape, x.count(3), 2);
        due.is("the tape is empty behind " + tape, x.count(4), 0);
    }

    private static void faults() {
        read("needs 2 ; takes 2 ; value 20 - hour ;");
        read("needs2;takes2;value20-hour;");
        read("\n needs\n2 \n;takes 2;value 2; \n ");
        read("needs 9999" + TAIL);
        fault("", 0);
        fault("   ", 3);
        fault("needs", 5);
        fault("needs ", 6);
        fault("needs 2", 7);
        fault("needs 2;", 8);
        fault("needs 2;takes 1;value 1", 23);
        fault("needs 2;takes 1;value 1 \n", 25);
        fault("takes 1;", 0);
        fault("needs 2;value 1;", 8);
        fault("needs 2 3" + TAIL, 8);
        fault("needs ;takes 1;value 1;", 6);
        fault("needs 2" + TAIL + ";", 24);
        fault("needs 2" + TAIL + " needs", 25);
        fault("needs 2" + TAIL + " A", 25);
        fault("Needs 2" + TAIL, 0);
        fault("need 2" + TAIL, 0);
        fault("needsrain" + TAIL, 0);
        fault("needs hours" + TAIL, 6);
        fault("needs numbers" + TAIL, 6);
        fault("needs streetss" + TAIL, 6);
        fault("needs o" + TAIL, 6);
        String[] noWords = {"xain", "raix", "rai", "hous", "xour", "numbex", "dome", "streex", "wes", "zest", "xeeds",
            "rainz", "zrain", "arain", "numberr", "xalue", "xr", "oz", "xnd", "nod", "a", "z", "streetnumber"};
        for (String word : noWords) {
            fault("needs 1+" + word + TAIL, 8);
            fault("needs " + word + " 1" + TAIL, 6);
        }
        for (int c = 0; c < 256; c++) {
            boolean stands = c == ' ' || c == '\n' || c >= '0' && c <= '9';
            if (stands) {
                read("needs 1" + (char) c + TAIL);
            } else {
                // a sign may stand there, but what comes behind it then can't
                fault("needs 1 " + (char) c + TAIL, "*+-<=;".indexOf(c) >= 0 ? 9 : 8);
            }
        }
        fault("needs 2\t" + TAIL, 7);
        fault("needs 2/2" + TAIL, 7);
        fault("needs 2,2" + TAIL, 7);
        fault("needs 2:2" + TAIL, 7);
        fault("needs 2>1" + TAIL, 7);
        fault("needs 12345" + TAIL, 6);
        fault("needs 00001" + TAIL, 6);
        fault("needs 2 12345" + TAIL, 8);
        fault("needs 1<2<3" + TAIL, 9);
        fault("needs 1=2=3" + TAIL, 9);
        fault("needs 1<2=3" + TAIL, 9);
        fault("needs 1+not 2" + TAIL, 8);
        fault("needs 1=not 2" + TAIL, 8);
        fault("needs -not 2" + TAIL, 7);
        fault("needs 1+" + TAIL, 8);
        fault("needs +1" + TAIL, 6);
        fault("needs *1" + TAIL, 6);
        fault("needs or" + TAIL, 6);
        fault("needs value" + TAIL, 6);
        fault("needs 1+takes" + TAIL, 8);
        fault("needs 1 and" + TAIL, 11);
        fault("needs 1 or or 2" + TAIL, 11);
        fault("needs (1" + TAIL, 8);
        fault("needs 1)" + TAIL, 7);
        fault("needs ()" + TAIL, 7);
        fault("needs rain hour" + TAIL, 11);
        fault("needs \u0080" + TAIL, 6);
    }

    /** A ( , a not, a - ahead of a ONE, while 5 of these are open. */
    private static void openings() {
        read("needs (((((1)))))" + TAIL);
        fault("needs ((((((1))))))" + TAIL, 11);
        read("needs -----1" + TAIL);
        fault("needs ------1" + TAIL, 11);
        read("needs not not not not not 1" + TAIL);
        fault("needs not not not not not not 1" + TAIL, 26);
        read("needs not(-(-1-1)-1)" + TAIL);
        fault("needs not(-(--1))" + TAIL, 13);
        fault("needs not(-(-(1)))" + TAIL, 13);
        fault("needs not(-(-1-not 1))" + TAIL, 15);
        fault("needs (((((1-(1))))))" + TAIL, 13);
        fault("needs (((((-1)))))" + TAIL, 11);
        fault("needs (((((not 1)))))" + TAIL, 11);
        read("needs (((((1)))))+(((((1-1)))))--1" + TAIL);
        read("needs not not not not not 1 or not not not not not 1" + TAIL);
        read("needs not not not not 1=-1+-1 and not 1" + TAIL);
        fault("needs not not not not not 1=-1" + TAIL, 28);
        read("needs -----1-----1*-----1;takes -----1;value not not not not not 1;");
    }

    private static void fullOfTexts() {
        OpenWhileItRains x = new OpenWhileItRains();
        for (int i = 1; i <= 5; i++) {
            due.is("text " + i, Due.text(x, "needs " + i + TAIL), i);
        }
        due.is("a seventh", Due.text(x, "needs 1" + TAIL), -4);
        due.is("the tape stays", x.count(4), 24);
        due.is("full ahead of a fault", Due.text(x, "x"), -4);
        due.is("the tape stays again", x.count(4), 25);
        due.is("texts", x.count(3), 6);
        due.is("it is read no more", x.feed(' '), 26);
    }

    /** Promise 8. */
    private static void force() {
        OpenWhileItRains x = new OpenWhileItRains();
        x.bargain(0, 0, 0);
        due.is("none such", x.force(1), -2);
        due.is("below", x.force(-1), -2);
        due.is("far", x.force(Integer.MAX_VALUE), -2);
        due.is("itself", x.force(0), 0);
        Due.text(x, "needs 3;takes 4;value 5;");
        due.is("not yet", x.asks(0, 0, 3), 20);
        due.is("forced", x.force(1), 0);
        due.is("by it", x.asks(0, 0, 0) * 100 + x.asks(0, 0, 1) * 10 + x.asks(0, 0, 3), 345);
        due.is("count(5)", x.count(5), 1);
        due.is("refused", x.force(6), -2);
        due.is("stays", x.count(5), 1);
        due.is("back", x.force(0), 1);
        due.is("by TEXT 0", x.asks(0, 5, 0) * 1000 + x.asks(0, 5, 1) * 100 + x.asks(0, 5, 3), 2215);
    }
}
