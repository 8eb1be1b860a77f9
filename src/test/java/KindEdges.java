/** Promise 5; the terms on what a KIND NEEDS, TAKES, is WORTH, when one HOLDS, when it is DEALT. */
final class KindEdges extends Part {
    KindEdges(Edges e) {
        super(e);
    }

    @Override
    void all() {
        needs();
        needsOfCow();
        takes();
        takesOfCheese();
        worth();
        worthByHour();
        bounds();
        holds();
        holdsTillTheLast();
        dealt();
        asksAsTruly();
        asksNeedsTakes();
        asksHolds();
        asksWorth();
        asksDealt();
        asksBad();
    }

    /** A BARGAIN of each KIND, of a NUMBER, in STREET 0, by a rule. */
    private Run kinds(int number, String needs, String takes, String value) {
        Run x = e.run();
        for (int kind = 0; kind < 6; kind++) {
            x.call("bargain(" + kind + ", " + number + ", 0)");
        }
        x.rule(needs, takes, value);
        return x;
    }

    private void needs() {
        Run x = kinds(2, "hour", "1", "1"); // v is 0 .. 9, then 9
        e.terms("NEEDS (how much rain, needs telling v): BARGAIN: v;");
        x.dueEach("asks(0, #, 0)", 1, 1, 2, 3, 4, 5, 6, 7, 8, 9, 9);
        e.terms("EGGS: half (cut) of a BARGAIN's;");
        x.dueEach("asks(1, #, 0)", 1, 1, 1, 1, 2, 2, 3, 3, 4, 4, 4);
        e.terms("CATTLE: 2 more than a BARGAIN;");
        x.dueEach("asks(2, #, 0)", 2, 3, 4, 5, 6, 7, 8, 9, 9, 9, 9);
        e.terms("CHEESE: as EGGS;");
        x.dueEach("asks(3, #, 0)", 1, 1, 1, 1, 2, 2, 3, 3, 4, 4, 4);
        e.terms("UMBRELLA: 1.");
        x.dueEach("asks(5, #, 0)", 1, 1, 1, 1, 1, 1, 1, 1, 1, 1, 1);
    }

    private void needsOfCow() {
        e.terms("COW: NUMBER by 3 (cut) more than CATTLE;");
        Run x = kinds(0, "hour", "1", "1");
        x.dueEach("asks(4, #, 0)", 2, 3, 4, 5, 6, 7, 8, 9, 9, 9);
        long[] more = {0, 0, 0, 1, 1, 1, 2, 2, 2, 3};
        for (int number = 0; number <= 9; number++) {
            x.call("set(2, 4, " + number + ")");
            x.due("asks(4, 1, 0)", 3 + more[number]);
        }
        x.dueEach("asks(4, #, 0)", 5, 6, 7, 8, 9, 9);
        x.due("asks(2, 1, 0)", 3);
    }

    private void takes() {
        Run x = kinds(9, "1", "hour", "1"); // v is 0 .. 23
        e.terms("TAKES (how many HOURS, takes telling v): BARGAIN: v;");
        x.dueEach("asks(0, #, 1)", 1, 1, 2, 3, 4, 5, 6, 7, 8, 9, 10, 11, 12, 13, 14, 15, 16, 17, 18, 19, 20, 21, 22, 23);
        e.terms("EGGS: 1 less than a BARGAIN;");
        x.dueEach("asks(1, #, 1)", 1, 1, 1, 2, 3, 4, 5, 6, 7, 8, 9, 10, 11, 12, 13, 14, 15, 16, 17, 18, 19, 20, 21, 22);
        e.terms("CATTLE: twice a BARGAIN's;");
        x.dueEach("asks(2, #, 1)", 1, 2, 4, 6, 8, 10, 12, 14, 16, 18, 20, 22, 24, 24, 24);
        e.terms("COW: as CATTLE;");
        x.dueEach("asks(4, #, 1)", 1, 2, 4, 6, 8, 10, 12, 14, 16, 18, 20, 22, 24, 24, 24);
        e.terms("UMBRELLA: 1.");
        x.dueEach("asks(5, #, 1)", 1, 1, 1, 1);
        x.due("asks(5, 23, 1)", 1);
    }

    private void takesOfCheese() {
        e.terms("CHEESE: NUMBER modulo 3 more than EGGS;");
        Run x = kinds(0, "1", "hour", "1");
        x.dueEach("asks(3, #, 1)", 1, 1, 1, 2, 3, 4);
        x.call("set(2, 3, 1)");
        x.dueEach("asks(3, #, 1)", 1, 1, 2, 3, 4, 5);
        x.call("set(2, 3, 2)");
        x.dueEach("asks(3, #, 1)", 1, 2, 3, 4, 5, 6);
        long[] more = {0, 1, 2, 0, 1, 2, 0, 1, 2, 0};
        for (int number = 0; number <= 9; number++) {
            x.call("set(2, 3, " + number + ")");
            x.due("asks(3, 4, 1)", 3 + more[number]);
        }
        x.due("asks(1, 4, 1)", 3);
    }

    private void worth() {
        Run x = kinds(9, "1", "1", "hour*5"); // v is 0, 5 .. 95, then 99
        e.terms("WORTH (behind HOUR h, value telling v): BARGAIN: v;");
        x.dueEach("asks(0, #, 3)", 0, 5, 10, 15);
        x.due("asks(0, 19, 3)", 95);
        x.due("asks(0, 20, 3)", 99);
        x.due("asks(0, 23, 3)", 99);
        e.terms("EGGS: as a BARGAIN;");
        x.dueEach("asks(1, #, 3)", 0, 5, 10, 15);
        x.due("asks(1, 23, 3)", 99);
        e.terms("CATTLE: 10 more than a BARGAIN;");
        x.dueEach("asks(2, #, 3)", 10, 15, 20, 25);
        x.due("asks(2, 12, 3)", 70);
        x.due("asks(2, 23, 3)", 109);
    }

    private void worthByHour() {
        Run x = kinds(9, "1", "1", "20");
        e.terms("CHEESE: h times 2 less than EGGS;");
        x.dueEach("asks(3, #, 3)", 20, 18, 16, 14, 12, 10, 8, 6, 4, 2, 0, 0, 0);
        x.due("asks(3, 23, 3)", 0);
        e.terms("COW: twice CATTLE's, if h is 12 or more, else as CATTLE;");
        x.due("asks(4, 0, 3)", 30);
        x.due("asks(4, 11, 3)", 30);
        x.due("asks(4, 12, 3)", 60);
        x.due("asks(4, 23, 3)", 60);
        e.terms("UMBRELLA: NUMBER, if h is below 3, else 0.");
        x.dueEach("asks(5, #, 3)", 9, 9, 9, 0, 0);
        x.due("asks(5, 23, 3)", 0);
        x.call("set(2, 5, 0)");
        x.due("asks(5, 0, 3)", 0);
        x.call("set(2, 5, 1)");
        x.due("asks(5, 2, 3)", 1);
    }

    private void bounds() {
        e.terms("(NEEDS 1 .. 9, TAKES 1 .. 24, WORTH 0 .. 999, else the bound.)");
        // the bounds are put on once, behind all that a KIND does to v
        Run low = kinds(1, "0", "0", "5");
        low.dueEach("asks(#, 0, 0)", 1, 1, 2, 1, 2, 1);
        low.dueEach("asks(#, 0, 1)", 1, 1, 1, 1, 1, 1);
        low.due("asks(3, 2, 3)", 1);
        low.due("asks(3, 3, 3)", 0);
        Run one = kinds(1, "1", "1", "0");
        one.dueEach("asks(#, 0, 0)", 1, 1, 3, 1, 3, 1);
        one.dueEach("asks(#, 0, 1)", 1, 1, 2, 1, 2, 1);
        one.due("asks(3, 1, 3)", 0);
        Run seven = kinds(0, "7", "12", "99");
        seven.dueEach("asks(#, 0, 0)", 7, 3, 9, 3, 9, 1);
        seven.dueEach("asks(#, 0, 1)", 12, 11, 24, 11, 24, 1);
        // WORTH 999 is beyond all that a KIND can be: this is the most
        seven.due("asks(4, 12, 3)", 2 * 109);
        Run eight = kinds(1, "8", "13", "99");
        eight.dueEach("asks(#, 0, 0)", 8, 4, 9, 4, 9, 1);
        eight.dueEach("asks(#, 0, 1)", 13, 12, 24, 13, 24, 1);
        Run most = kinds(2, "9", "24", "99");
        most.dueEach("asks(#, 0, 0)", 9, 4, 9, 4, 9, 1);
        most.dueEach("asks(#, 0, 1)", 24, 23, 24, 24, 24, 1);
        most.call("set(2, 3, 1)");
        most.due("asks(3, 0, 1)", 24);
        most.call("set(2, 3, 0)");
        most.due("asks(3, 0, 1)", 23);
    }

    private void holds() {
        e.terms("A BARGAIN begun in HOUR h HOLDS, if in its STREET it rains as much as it NEEDS or more in HOUR h");
        Run x = e.run();
        x.rain(0, "0456799999");
        x.rain(1, "99999");
        x.call("bargain(0, 0, 0)");
        x.rule("5", "1", "1");
        x.dueEach("asks(0, #, 2)", 0, 0, 1, 1, 1, 1);
        e.terms("in HOUR h and as many more on end as it TAKES, together");
        Run y = e.run();
        y.rain(0, "033304333504");
        y.rain(1, WET);
        y.call("bargain(0, 0, 0)");
        y.rule("3", "3", "1");
        y.dueEach("asks(0, #, 2)", 0, 1, 0, 0, 0, 1, 1, 1, 0, 0, 0);
        y.call("set(1, 2, 2)");
        y.due("asks(0, 1, 2)", 0);
        y.call("set(1, 2, 3)");
        y.call("set(1, 3, 2)");
        y.due("asks(0, 1, 2)", 0);
        y.call("set(1, 3, 3)");
        y.due("asks(0, 1, 2)", 1);
    }

    private void holdsTillTheLast() {
        e.terms("and as many more on end as it TAKES, together (none behind HOUR 23).");
        Run x = wet(1);
        x.rule("1", "3", "1");
        x.due("asks(0, 20, 2)", 1);
        x.due("asks(0, 21, 2)", 1);
        x.due("asks(0, 22, 2)", 0);
        x.due("asks(0, 23, 2)", 0);
        x.rule("1", "24", "1");
        x.due("asks(0, 0, 2)", 1);
        x.due("asks(0, 1, 2)", 0);
        x.rule("1", "1", "1");
        x.due("asks(0, 23, 2)", 1);
        // neither the other STREET's first HOUR nor the day's is behind the last
        x.rule("1", "2", "1");
        x.due("asks(0, 22, 2)", 1);
        x.due("asks(0, 23, 2)", 0);
        x.call("set(3, 0, 1)");
        x.due("asks(0, 23, 2)", 0);
    }

    private void dealt() {
        e.terms("DEALT from an HOUR on: in the first HOUR from then on in which, begun, it HOLDS; hands are shaken in its last HOUR; NONE: never.");
        Run x = e.run();
        x.rain(0, "022200000000000000000022");
        x.call("bargain(0, 0, 0)");
        x.dueEach("asks(0, #, 4)", 2, 2, 3, 23, 23);
        x.due("asks(0, 22, 4)", 23);
        x.due("asks(0, 23, 4)", NONE);
        x.call("set(1, 23, 1)");
        x.due("asks(0, 2, 4)", 3);
        x.due("asks(0, 3, 4)", NONE);
        x.call("set(3, 0, 1)");
        x.due("asks(0, 0, 4)", NONE);
        Run y = wet(1);
        y.rule("9", "24", "0");
        y.due("asks(0, 0, 4)", 23);
        y.due("asks(0, 1, 4)", NONE);
        y.rule("9", "1", "0");
        y.due("asks(0, 0, 4)", 0);
        y.due("asks(0, 23, 4)", 23);
    }

    private void asksAsTruly() {
        e.promise(5, "Of a BARGAIN in an HOUR, SHAKEN on as truly:");
        Run x = wet(6);
        x.rule("done", "done", "done");
        x.due("asks(0, 0, 0)", 1);
        x.due("asks(0, 0, 3)", 0);
        for (int b = 5; b >= 0; b--) {
            x.call("set(4, " + b + ", 1)");
            x.due("asks(0, 0, 0)", 6 - b);
            x.due("asks(0, 0, 1)", 6 - b);
            x.due("asks(0, 0, 3)", 6 - b);
            // one that is SHAKEN on itself is asked as the others are
            x.due("asks(5, 0, 3)", 6 - b);
            x.due("asks(0, 0, 4)", 5 - b);
        }
        x.due("count(1)", 6);
    }

    private void asksNeedsTakes() {
        e.promise(5, "NEEDS (what 0), TAKES (1),");
        Run x = e.run();
        x.call("bargain(0, 0, 0)");
        x.rule("hour+1", "hour+1", "0");
        x.due("asks(0, 0, 0)", 1);
        x.due("asks(0, 23, 0)", 9);
        x.due("asks(0, 0, 1)", 1);
        x.due("asks(0, 23, 1)", 24);
    }

    private void asksHolds() {
        e.promise(5, "whether it HOLDS, begun then (2; 1, 0),");
        Run x = e.run();
        x.rain(0, "220000000000000000000022");
        x.call("bargain(0, 0, 0)");
        x.dueEach("asks(0, #, 2)", 1, 0, 0);
        x.due("asks(0, 21, 2)", 0);
        x.due("asks(0, 22, 2)", 1);
        x.due("asks(0, 23, 2)", 0);
    }

    private void asksWorth() {
        e.promise(5, "WORTH, were hands shaken then (3),");
        Run x = e.run(); // it is dry, so that it never HOLDS
        x.call("bargain(0, 0, 0)");
        x.due("asks(0, 0, 3)", 20);
        x.due("asks(0, 19, 3)", 1);
        x.due("asks(0, 20, 3)", 0);
        x.due("asks(0, 21, 3)", 0);
        x.due("asks(0, 23, 3)", 0);
    }

    private void asksDealt() {
        e.promise(5, "in which HOUR hands are shaken, DEALT from then on (4; NONE).");
        Run x = e.run();
        x.call("bargain(5, 0, 0)");
        x.dueEach("asks(0, #, 4)", NONE, NONE);
        x.call("set(1, 0, 1)");
        x.dueEach("asks(0, #, 4)", 0, NONE);
        x.call("set(1, 23, 1)");
        x.dueEach("asks(0, #, 4)", 0, 23);
        x.due("asks(0, 23, 4)", 23);
        x.call("set(4, 0, 1)");
        x.due("asks(0, 0, 4)", 0);
    }

    private void asksBad() {
        e.promise(5, "BAD.");
        for (int what = 0; what <= 4; what++) {
            refusedEach(BAD, "asks(-1, 0, " + what + ")", "asks(5, 0, " + what + ")", "asks(MIN, 0, " + what + ")",
                "asks(MAX, 0, " + what + ")");
            refusedEach(BAD, "asks(4, -1, " + what + ")", "asks(4, 24, " + what + ")", "asks(4, MIN, " + what + ")",
                "asks(4, MAX, " + what + ")");
            e.refusedIn(Busy::fullOfBargains, "asks(6, 23, " + what + ")", BAD);
        }
        refusedEach(BAD, "asks(4, 23, -1)", "asks(4, 23, 5)", "asks(4, 23, MIN)", "asks(4, 23, MAX)");
        Run x = e.run(Busy::fullOfBargains);
        x.due("asks(5, 23, 1)", 2);
        e.run().due("asks(0, 0, 0)", BAD);
    }
}
