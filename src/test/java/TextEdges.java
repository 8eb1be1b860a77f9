/** Promises 6 to 8; the terms on what a TEXT is and what it tells. */
final class TextEdges extends Part {
    TextEdges(Edges e) {
        super(e);
    }

    @Override
    void all() {
        feed();
        feedBad();
        feedFull();
        textRead();
        textFull();
        force();
        forceBad();
        tape();
        words();
        numbers();
        signsAndBlanks();
        parts();
        grammar();
        namesAndKeys();
        values();
        wrapping();
        sixTexts();
        meanings();
        whichHour();
        boundsOfTexts();
        firstText();
    }

    private void feed() {
        e.promise(6, "A byte (0 .. 255) comes behind THE TAPE: how many it has.");
        Run x = e.run();
        x.due("count(4)", 0);
        x.due("feed(0)", 1);
        x.due("feed(255)", 2);
        x.due("feed(48)", 3);
        x.due("count(4)", 3);
        x.due("text()", -100);
        x.due("feed(0)", 1);
    }

    private void feedBad() {
        e.promise(6, "BAD;");
        refusedEach(BAD, "feed(-1)", "feed(256)", "feed(MIN)", "feed(MAX)");
        // BAD is named ahead of FULL
        e.refusedIn(Busy::fullTape, "feed(-1)", BAD);
        e.refusedIn(Busy::fullTape, "feed(256)", BAD);
    }

    private void feedFull() {
        e.promise(6, "FULL.");
        Run x = e.run();
        for (int i = 1; i <= 160; i++) {
            x.due("feed(32)", i);
        }
        x.due("feed(32)", FULL);
        x.due("count(4)", 160);
        x.due("text()", -100 - 160);
        x.due("feed(32)", 1);
        e.refusedIn(Busy::fullTape, "feed(0)", FULL);
        e.refusedIn(Busy::fullTape, "feed(255)", FULL);
    }

    private void textRead() {
        e.promise(7, "THE TAPE, which is empty then (by a FAULT, too), is a TEXT: its number;");
        Run x = e.run();
        for (int i = 1; i <= 5; i++) {
            x.due("count(3)", i);
            x.feed("needs " + i + ";takes 1;value 1;");
            x.due("count(4)", 24);
            x.due("text()", i);
            x.due("count(4)", 0);
            x.due("count(5)", 0);
        }
        x.due("count(3)", 6);
        e.promise(7, "-100 less the place of its FAULT.");
        Run y = e.run();
        y.due("text()", -100);
        y.feed("needs");
        y.due("text()", -105);
        y.due("count(4)", 0);
        y.due("count(3)", 1);
        y.feed("needs 1;takes 1;value 1;");
        y.due("text()", 1);
    }

    private void textFull() {
        e.promise(7, "FULL (ahead of all): no TEXT more has room (THE TAPE stays).");
        Run x = e.run(Busy::market);
        x.call("text()");
        x.text("needs 1;takes 1;value 1;");
        x.text("needs 1;takes 1;value 1;");
        x.feed("needs 1;takes 1;value 1;");
        x.due("text()", 5);
        x.due("text()", FULL);
        // THE TAPE has a FAULT
        e.refusedIn(Busy::fullOfTexts, "text()", FULL);
        // it is a TEXT
        Run y = e.run(Busy::fullOfTexts);
        y.feed(" 1;takes 1;value 1;");
        y.due("text()", FULL);
        y.due("count(4)", 24);
        y.due("count(3)", 6);
        y.due("feed(32)", 25);
    }

    private void force() {
        e.promise(8, "A TEXT is THE RULE: which was.");
        Run x = e.run(Busy::fullOfTexts);
        x.due("force(1)", 1);
        x.due("force(0)", 1);
        x.due("asks(0, 0, 3)", 20);
        x.due("force(5)", 0);
        x.due("asks(0, 0, 3)", 8);
        x.due("count(5)", 5);
        x.due("force(4)", 5);
        x.due("asks(0, 0, 3)", 6);
    }

    private void forceBad() {
        e.promise(8, "BAD.");
        refusedEach(BAD, "force(-1)", "force(3)", "force(5)", "force(MIN)", "force(MAX)");
        e.refusedIn(Busy::fullOfTexts, "force(6)", BAD);
        e.run().due("force(1)", BAD);
    }

    private void tape() {
        e.terms("A TEXT is read from THE TAPE (160 bytes at most).");
        Run x = e.run();
        String head = "needs 1;takes 1;value ";
        String sum = "1" + "+1".repeat(68);
        x.feed(head + sum + ";");
        x.due("count(4)", 160);
        x.due("text()", 1);
        x.call("force(1)");
        x.call("bargain(0, 0, 0)");
        x.due("asks(0, 0, 3)", 69);
        // the next one finds as much room
        x.feed(head + sum.replace('+', '-') + ";");
        x.due("text()", 2);
        x.call("force(2)");
        x.due("asks(0, 0, 3)", 0);
        Run y = e.run();
        y.feed(head + sum + "+1;"); // the last two find no room
        y.due("count(4)", 160);
        y.due("text()", -100 - 160);
    }

    /** The tape is a TEXT. */
    private void read(String tape) {
        Run x = e.run();
        e.is("reading " + tape, x.text(tape), 1);
    }

    /** needs is this, and the tape is a TEXT. */
    private void reads(String... needs) {
        for (String need : needs) {
            read("needs " + need + ";takes 1;value 1;");
        }
    }

    /** needs is this, and the tape is none. */
    private void faults(String... needs) {
        for (String need : needs) {
            Run x = e.run();
            long answer = x.text("needs " + need + ";takes 1;value 1;");
            e.is("needs " + need + " is a FAULT (" + answer + ")", answer <= -100 ? 1 : 0, 1);
        }
    }

    private void words() {
        e.terms("TOKENS, each as long as can be: WORDS (a .. z),");
        read("needs2;takes2;value2;");
        reads("not(1)", "2and 3", "not 1or 2", "rain*hour");
        faults("not1rain", "rainhour", "rain1", "notrain", "1andrain", "1 andrain", "hours", "rai n");
        // the first and the last of the letters, and those beside them
        faults("`", "{", "a", "z", "Rain", "rAIN", "@", "[");
        value("number+west", 6 + 2);
    }

    private void numbers() {
        e.terms("NUMBERS (as many digits as stand there, 4 at most),");
        value("0", 0);
        value("9", 9);
        value("99", 99);
        value("099", 99);
        value("0000", 0);
        value("0099", 99);
        value("9999=9998+1", 1);
        value("1000=999+1", 1);
        faults("10000", "00000", "99999", "1 0", "1234 5", "12345678901", "/", "1:", "0x1", "1.5");
    }

    private void signsAndBlanks() {
        e.terms("SIGNS ( ) ; + - * < = ;");
        read("needs(1);takes-1;value(1)<1;");
        reads("(1)+2-3*4<5", "(1)=1");
        for (String sign : "! \" # $ % & ' , . / : > ? [ \\ ] ^ _ { | } ~".split(" ")) {
            faults("1" + sign, "1" + sign + "1");
        }
        e.terms("blanks (32, 10) may stand between.");
        read("  \n needs\n\n1  ;\ntakes 1 ; value(  1\n) ;\n ");
        read("needs1;takes1;value1;");
        for (char blank : new char[] {0, 9, 11, 12, 13, 31, 127, 133, 160, 255}) {
            faults("1" + blank, blank + "1");
        }
    }

    private void parts() {
        e.terms("TEXT: needs E ; takes E ; value E ;");
        read("needs 1;takes 1;value 1;");
        String[] none = {"needs 1;takes 1;value 1", "needs 1;takes 1;", "needs 1 takes 1;value 1;",
            "takes 1;needs 1;value 1;",
            "needs;takes 1;value 1;", "needs 1;takes 1;value 1;;", "needs 1;takes 1;value 1;needs 1;",
                "needs 1;needs 1;value 1;",
            "1;takes 1;value 1;", "needs 1;takes 1;value;"};
        for (String tape : none) {
            Run x = e.run();
            long answer = x.text(tape);
            e.is(tape + " is a FAULT (" + answer + ")", answer <= -100 ? 1 : 0, 1);
        }
    }

    private void grammar() {
        e.terms("E: AND { or AND }. AND: NOT { and NOT }.");
        reads("1 or 1", "1 or 1 or 1", "1 and 1", "1 and 1 and 1", "1 and 1 or 1 and 1", "not 1 or not 1",
            "not 1 and not 1");
        faults("or 1", "1 or", "and 1", "1 and", "1 or or 1", "1 and and 1", "1 or and 1");
        value("1 or 1 and 0", 1);
        value("0 and 0 or 1", 1);
        value("0 and (0 or 1)", 0);
        e.terms("NOT: not NOT, or SUM, perhaps < or = and a SUM.");
        reads("not 1", "not not 1", "not 1<1", "1<1", "1=1", "1+1<1+1", "not 1=1");
        faults("1<1<1", "1=1=1", "1<1=1", "1<", "<1", "1=", "=1", "1<not 1", "1=not 1", "1 not", "not", "1<=1");
        value("not 1=0", 1);
        value("not 0<1", 0);
        e.terms("SUM: TERM { + or - TERM }. TERM: ONE { * ONE }.");
        reads("1+1", "1-1", "1+1-1+1", "1*1", "1*1*1", "1*1+1*1");
        faults("+1", "1+", "1-", "*1", "1*", "1+*1", "1++1", "1+not 1");
        value("9-3-2", 4);
        value("9-3+2", 8);
        value("2+3*4", 14);
        value("2*3+4", 10);
        value("2*3*4", 24);
        e.terms("ONE: a NUMBER, a NAME, - ONE, ( E ).");
        reads("1", "rain", "-1", "--1", "-rain", "-(1)", "(1)", "((1))", "(1 or 1)", "(not 1)", "1*-1", "1--1", "1+-1");
        faults("()", "(1", "1)", "-", "(-)", "-not 1", "1 1", "rain rain", "1(1)", "(1)(1)", "1 rain");
        value("-(0-5)", 5);
        value("--5", 5);
        value("10+-5", 5);
        value("-2*-3", 6);
    }

    private void namesAndKeys() {
        e.terms("NAMES are rain hour number done street west;");
        reads("rain", "hour", "number", "done", "street", "west");
        faults("rai", "rains", "hou", "numbe", "numberr", "don", "stree", "streets", "wes", "wests", "takers", "x");
        e.terms("needs, takes, value, or, and, not are KEYS.");
        faults("needs", "takes", "value", "or", "and", "not", "1+needs", "1+takes", "1+value", "-or", "(and)");
    }

    /** What a BARGAIN (NUMBER 6, STREET 1) is WORTH in HOUR 4 by this value, WEST being 2. */
    private void value(String value, long want) {
        Run x = e.run();
        x.call("bargain(0, 6, 1)");
        x.call("set(0, 0, 2)");
        x.rule("1", "1", value);
        long worth = x.call("asks(0, 4, 3)");
        e.is("value " + value, worth, want);
    }

    private void values() {
        e.terms("of or, and, not, <, = 1 or 0 (what is not 0 is true).");
        String[] one = {"7 or 0", "0 or -1", "7 or 7", "7 and -1", "2 and 1", "not 0", "3<4", "-1<0", "4=4", "0=0", "-4=-4"};
        for (String expression : one) {
            value("50+(" + expression + ")", 51);
        }
        String[] zero = {"0 or 0", "7 and 0", "0 and 7", "0 and 0", "not 7", "not -1", "not 1", "4<4", "5<4", "0<-1",
            "4=5", "-4=4"};
        for (String expression : zero) {
            value("50+(" + expression + ")", 50);
        }
    }

    private void wrapping() {
        e.terms("An E is an int (32 bits, wrapping):");
        // 2147483647 is 9999 * 9999 * 21 + 4790 * 9999 + 8416, with 1 more it is the least
        String most = "9999*9999*21+4790*9999+8416";
        value("(0<" + most + ")*10", 10);
        value("(" + most + "+1<0)*10", 10);
        value("(-(" + most + "+1)<0)*10", 10);
        value("(0<-(" + most + ")-2)*10", 10);
        value("(-(" + most + ")-1<0)*10", 10);
        value("((" + most + ")*2=-2)*10", 10);
        value("((" + most + "+1)*2=0)*10", 10);
    }

    private void sixTexts() {
        e.terms("There are 6 TEXTS at most, TEXT 0 with them.");
        Run x = e.run();
        x.due("count(3)", 1);
        for (int i = 1; i <= 5; i++) {
            e.is("text " + i, x.text("needs 1;takes 1;value 1;"), i);
        }
        e.is("a seventh", x.text("needs 1;takes 1;value 1;"), FULL);
        x.due("count(3)", 6);
    }

    private void meanings() {
        e.terms("Of a BARGAIN in an HOUR: rain: RAIN of its STREET then; hour: the HOUR; number: NUMBER;");
        Run x = e.run();
        x.rain(0, "300000000000000000000007");
        x.rain(1, "900000000000000000000004");
        x.call("bargain(0, 9, 0)");
        x.call("bargain(0, 0, 1)");
        x.rule("1", "1", "rain*10");
        x.due("asks(0, 0, 3)", 30);
        x.due("asks(0, 1, 3)", 0);
        x.due("asks(0, 23, 3)", 70);
        x.due("asks(1, 0, 3)", 90);
        x.due("asks(1, 23, 3)", 40);
        x.rule("1", "1", "hour");
        x.due("asks(0, 0, 3)", 0);
        x.due("asks(0, 23, 3)", 23);
        x.rule("1", "1", "number");
        x.due("asks(0, 0, 3)", 9);
        x.due("asks(1, 0, 3)", 0);
        e.terms("done: how many BARGAINS were SHAKEN on ahead; street: its STREET; west: WEST.");
        x.rule("1", "1", "done*10+street");
        x.due("asks(0, 0, 3)", 0);
        x.due("asks(1, 0, 3)", 1);
        x.call("set(4, 0, 1)");
        x.due("asks(1, 0, 3)", 11);
        x.call("set(4, 1, 1)");
        x.due("asks(0, 0, 3)", 20);
        x.rule("1", "1", "west");
        x.due("asks(0, 0, 3)", 0);
        x.call("set(0, 0, 9)");
        x.due("asks(0, 0, 3)", 9);
    }

    private void whichHour() {
        e.terms("(Of needs, takes: the HOUR in which it is begun; of value: that in which hands are shaken, the last one.)");
        Run x = e.run();
        x.rain(0, "000521");
        x.call("bargain(0, 0, 0)");
        x.rule("(hour=3)+9*(hour<3)+9*(3<hour)", "3*(rain=5)", "hour*10+rain");
        x.due("asks(0, 0, 4)", 5);
        x.due("asks(0, 3, 2)", 1);
        x.sheet(0, 0, 0);
        x.due("tour(0, 0)", 51);
        x.due("best(1)", 51);
        x.due("few(1)", 51);
    }

    private void boundsOfTexts() {
        e.terms("needs (0 .. 9, else the bound), takes (0 .. 24, else the bound), value (0 .. 99, else the bound).");
        Run x = e.run();
        for (int kind = 0; kind < 5; kind++) {
            x.call("bargain(" + kind + ", 2, 0)");
        }
        // v is -1, 0, 1 in HOURS 0, 1, 2
        x.rule("hour-1", "hour-1", "hour-1");
        x.dueEach("asks(2, #, 0)", 2, 2, 3);
        x.dueEach("asks(3, #, 1)", 1, 1, 2);
        x.dueEach("asks(0, #, 3)", 0, 0, 1);
        x.dueEach("asks(2, #, 3)", 10, 10, 11);
        // v is 8, 9, 10; 23, 24, 25; 98, 99, 100
        x.rule("hour+8", "hour+23", "hour+98");
        x.dueEach("asks(0, #, 0)", 8, 9, 9);
        x.dueEach("asks(1, #, 0)", 4, 4, 4);
        x.dueEach("asks(0, #, 1)", 23, 24, 24);
        x.dueEach("asks(1, #, 1)", 22, 23, 23);
        x.dueEach("asks(0, #, 3)", 98, 99, 99);
        x.dueEach("asks(2, #, 3)", 108, 109, 109);
        // so far below that twice as much would wrap: 1610612736 is 9999 * 9999 * 16 + 1093 * 9999 + 3813
        x.rule("1", "-(9999*9999*16+1093*9999+3813)", "1");
        x.dueEach("asks(#, 0, 1)", 1, 1, 1, 1, 1);
        // far beyond
        x.rule("0-9999*9999*(1-2*hour)", "0-9999*9999*(1-2*hour)", "0-9999*9999*(1-2*hour)");
        x.dueEach("asks(2, #, 0)", 2, 9);
        x.dueEach("asks(1, #, 1)", 1, 23);
        x.dueEach("asks(2, #, 3)", 10, 109);
    }

    private void firstText() {
        e.terms("TEXT 0, at first THE RULE, is: needs 2 ; takes 2 ; value 20 - hour ;");
        Run x = e.run();
        x.due("count(5)", 0);
        x.due("count(3)", 1);
        x.call("bargain(0, 0, 0)");
        x.dueEach("asks(0, #, 0)", 2, 2, 2);
        x.dueEach("asks(0, #, 1)", 2, 2, 2);
        x.dueEach("asks(0, #, 3)", 20, 19, 18);
        x.due("asks(0, 20, 3)", 0);
        x.due("asks(0, 23, 3)", 0);
        x.rule("1", "1", "1");
        x.due("force(0)", 1);
        x.due("asks(0, 0, 3)", 20);
    }
}
