/** The terms on the place of a FAULT. */
final class FaultEdges extends Part {
    private static final String TAIL = ";takes 1;value 1;";

    FaultEdges(Edges e) {
        super(e);
    }

    @Override
    void all() {
        tokenThatCannotStand();
        endsTooEarly();
        byteThatBeginsNone();
        wordThatIsNone();
        numberTooLong();
        sixthOpen();
        openTill();
        notTill();
        minusTill();
        firstOfTwo();
    }

    private void fault(String tape, int place) {
        Run x = e.run();
        e.is("the place of the fault of \"" + tape + "\"", -100 - x.text(tape), place);
        x.due("count(3)", 1);
        x.due("count(4)", 0);
    }

    private void read(String needs) {
        Run x = e.run();
        e.is("reading needs " + needs, x.text("needs " + needs + TAIL), 1);
    }

    private void tokenThatCannotStand() {
        e.terms("FAULT: the place of the first byte of the first TOKEN that can't stand there");
        fault("takes 1;", 0);
        fault(" \n hour", 3);
        fault("needs ;" + TAIL, 6);
        fault("needs 1 2345" + TAIL, 8);
        fault("needs 1  west" + TAIL, 9);
        fault("needs 1);", 7);
        fault("needs 1;value 1;", 8);
        fault("needs 1;takes 1;needs 1;", 16);
        fault("needs 1<2<3" + TAIL, 9);
        fault("needs 1+*2" + TAIL, 8);
        fault("needs 1+or" + TAIL, 8);
        fault("needs 1" + TAIL + ";", 24);
        fault("needs 1" + TAIL + "\n\n1", 26);
        fault("needs 1" + TAIL + " ".repeat(135) + "1", 159);
    }

    private void endsTooEarly() {
        e.terms("(the text's size, if it ends too early)");
        fault("", 0);
        fault(" ", 1);
        fault("needs", 5);
        fault("needs 1", 7);
        fault("needs 1;", 8);
        fault("needs 1;takes 1;value 1", 23);
        fault("needs 1;takes 1;value 1 \n ", 26);
        fault("needs (1", 8);
        fault("needs not ", 10);
        fault("needs 1" + " ".repeat(153), 160);
    }

    private void byteThatBeginsNone() {
        e.terms(", also of a byte that begins none,");
        for (int c = 0; c < 256; c++) {
            if (c != 10 && c != 32 && "0123456789()+-*;<=abcdefghijklmnopqrstuvwxyz".indexOf(c) < 0) {
                fault("needs 1+" + (char) c + TAIL, 8);
                fault((char) c + "needs 1" + TAIL, 0);
                fault("needs 1" + TAIL + (char) c, 24);
            }
        }
    }

    private void wordThatIsNone() {
        e.terms("a WORD that is neither KEY nor NAME,");
        fault("need 1" + TAIL, 0);
        fault("needss 1" + TAIL, 0);
        fault("needs 1 +rains" + TAIL, 9);
        fault("needs rai" + TAIL, 6);
        fault("needs raina" + TAIL, 6);
        fault("needs rainz" + TAIL, 6);
        fault("needs zrain" + TAIL, 6);
        fault("needs 1 an 1" + TAIL, 8);
        fault("needs 1 orr 1" + TAIL, 8);
        fault("needs no 1" + TAIL, 6);
        fault("needs 1;take 1;value 1;", 8);
        fault("needs 1;takes 1;values 1;", 16);
        fault("needs 1" + TAIL + " x", 25);
    }

    private void numberTooLong() {
        e.terms("a NUMBER that is too long,");
        read("9999");
        fault("needs 10000" + TAIL, 6);
        fault("needs 00000" + TAIL, 6);
        fault("needs 1-99999*2" + TAIL, 8);
        fault("needs 1 12345" + TAIL, 8);
        fault("needs 1;takes 1;value 12345", 22);
        fault("needs 1" + TAIL + "12345", 24);
    }

    private void sixthOpen() {
        e.terms("a ( , a not, a - ahead of a ONE while 5 of these are open");
        read("(((((1)))))");
        fault("needs ((((((1))))))" + TAIL, 11);
        read("-----1");
        fault("needs ------1" + TAIL, 11);
        read("not not not not not 1");
        fault("needs not not not not not not 1" + TAIL, 26);
        // each of the three while others are open
        read("not(-(-1))");
        fault("needs not(-(-(1)))" + TAIL, 13);
        read("not not((-1))");
        fault("needs not not((-(1)))" + TAIL, 16);
        fault("needs not not((--1))" + TAIL, 16);
        fault("needs not(((not not 1)))" + TAIL, 16);
        // a - between two is none of them
        read("(((((1-1)))))");
        read("-----1-1");
        // one too many is a FAULT, whatever comes then
        fault("needs ((((((", 11);
        fault("needs ------", 11);
        fault("needs not not not not not not", 26);
    }

    private void openTill() {
        e.terms("(a ( till its ) ,");
        read("(((((1)))))+(((((1)))))");
        read("((((1))+(((1)))))");
        fault("needs ((((1))+((((1))))))" + TAIL, 17);
        read("((((1)))+-(1))");
        read("(((((1)))-(1)))");
        fault("needs (((((1)-((1))))))" + TAIL, 15);
        read("((((1)-(1))))");
    }

    private void notTill() {
        e.terms("not and - till what they belong to ends).");
        read("not not not not not 1 or not not not not not 1");
        read("not not not not not 1 and not 1");
        // to a not belongs all that is compared, on both sides
        fault("needs not not not not not 1=-1" + TAIL, 28);
        fault("needs not not not not not 1<1+1*-1" + TAIL, 32);
        fault("needs not not not not not 1<(1)" + TAIL, 28);
        read("not not not not 1<(1)");
        read("not not not not not 1 or -----1");
        read("(not not not not 1)or(not not not not 1)");
        fault("needs (not not not not not 1)" + TAIL, 23);
    }

    private void minusTill() {
        e.terms("not and - till what they belong to ends).");
        read("-----1--1");
        read("-----1*-----1");
        read("-----1+(-1)");
        read("-(-(-1))");
        fault("needs -(-(--1))" + TAIL, 11);
        read("not -1<----1");
        fault("needs not -1<-----1" + TAIL, 17);
        fault("needs -----(1)" + TAIL, 11);
        read("----(1)*----(1)");
    }

    private void firstOfTwo() {
        e.terms("the first TOKEN that can't stand there");
        fault("needs ) 12345" + TAIL, 6);
        fault("needs 12345 )" + TAIL, 6);
        fault("needs x $" + TAIL, 6);
        fault("needs $ x" + TAIL, 6);
        fault("1 x 12345 $", 0);
        fault("needs 1" + TAIL + " 1 x", 25);
        fault("needs ((((((12345", 11);
        fault("needs (((((12345", 11);
    }
}
