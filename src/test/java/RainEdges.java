/** Promises 1 to 4; the terms on streets, hours, rain, the west, bargains, refusals; the constants; 512 calls. */
final class RainEdges extends Part {
    RainEdges(Edges e) {
        super(e);
    }

    @Override
    void all() {
        newObject();
        constants();
        manyCalls();
        setWest();
        setRain();
        setNumber();
        setStreet();
        setShaken();
        setOfNone();
        setTellsWhatWas();
        setWhat();
        bargain();
        bargainBad();
        bargainFull();
        toldAll();
        toldBad();
        termsOfRain();
        termsOfBargains();
        termsOfRefusals();
    }

    private void newObject() {
        e.promise(1, "No BARGAINS, no RAIN.");
        Run x = e.run();
        x.dueEach("count(#)", 0, 0, 0, 1, 0, 0);
        for (int b = 0; b < 6; b++) {
            for (int what = 2; what <= 5; what++) {
                x.due("told(" + b + ", " + what + ")", BAD);
            }
        }
        for (int i = 0; i < 48; i++) {
            x.due("told(" + (i / 24 * 100 + i % 24) + ", 1)", 0);
        }
        x.due("sky(0, 4)", (1 << 24) - 1);
        x.dueEach("best(#)", 0, 0, NONE, 0);
        x.due("bargain(0, 0, 0)", 0);
    }

    private void constants() {
        e.says("The public face", "NONE = -1, BAD = -2, STATE = -3, FULL = -4;");
        e.is("NONE", OpenWhileItRains.NONE, -1);
        e.is("BAD", OpenWhileItRains.BAD, -2);
        e.is("STATE", OpenWhileItRains.STATE, -3);
        e.is("FULL", OpenWhileItRains.FULL, -4);
        e.says("The public face", "public static final long NO = -4611686018427387904L;");
        e.is("NO", OpenWhileItRains.NO, -4611686018427387904L);
        e.terms("NONE is -1; NO, where a long is answered, -4611686018427387904.");
        Run x = e.run();
        x.due("sky(0, 1)", -1);
        x.due("chance(0, 0, 0, 0)", -4611686018427387904L);
    }

    private void manyCalls() {
        e.says("What it is", "An object is used for at most 512 calls after it has been made");
        Run x = wet(4); // 48 + 4 calls
        for (int i = 52; i < Run.MOST_CALLS - 4; i += 2) {
            x.call("best(2)");
            x.call("water(1)");
        }
        x.due("best(0)", 1234);
        x.due("best(2)", NONE);
        x.due("water(1)", 19 + 17 + 15 + 13);
        x.due("count(0)", 4); // the 512th
    }

    private void setWest() {
        e.promise(2, "WEST (what 0; of does not matter)");
        Run x = e.run();
        x.due("set(0, MIN, 9)", 0);
        x.due("set(0, MAX, 0)", 9);
        x.due("set(0, -1, 5)", 0);
        x.due("set(0, 999, 6)", 5);
        x.due("told(0, 0)", 6);
        refusedEach(BAD, "set(0, 0, -1)", "set(0, 0, 10)", "set(0, 0, MIN)", "set(0, 0, MAX)");
    }

    private void setRain() {
        e.promise(2, "RAIN (1; of: 100 times the STREET, and the HOUR)");
        Run x = e.run();
        for (int i = 0; i < 48; i++) {
            x.due("set(1, " + (i / 24 * 100 + i % 24) + ", " + (1 + i % 9) + ")", 0);
        }
        for (int i = 0; i < 48; i++) {
            x.due("told(" + (i / 24 * 100 + i % 24) + ", 1)", 1 + i % 9);
        }
        x.due("set(1, 0, 0)", 1);
        x.due("set(1, 123, 9)", 3);
        x.due("told(123, 1)", 9);
        refusedEach(BAD, "set(1, 24, 1)", "set(1, 99, 1)", "set(1, 124, 1)", "set(1, 199, 1)", "set(1, 200, 1)",
            "set(1, 223, 1)");
        refusedEach(BAD, "set(1, -1, 1)", "set(1, -77, 1)", "set(1, -100, 1)", "set(1, -177, 1)", "set(1, MIN, 1)",
            "set(1, MAX, 1)");
        refusedEach(BAD, "set(1, 0, -1)", "set(1, 0, 10)", "set(1, 123, 10)", "set(1, 0, MIN)", "set(1, 0, MAX)");
    }

    /** NUMBER, STREET or SHAKEN of the first BARGAIN: from least to most and back. */
    private void setOneOf(int what, int most) {
        Run x = e.run();
        x.call("bargain(0, 0, 0)");
        x.due("set(" + what + ", 0, " + most + ")", 0);
        x.due("told(0, " + what + ")", most);
        x.due("set(" + what + ", 0, 0)", most);
        x.due("told(0, " + what + ")", 0);
        e.refused("set(" + what + ", 1, -1)", BAD);
        e.refused("set(" + what + ", 1, " + (most + 1) + ")", BAD);
        e.refused("set(" + what + ", 1, MIN)", BAD);
        e.refused("set(" + what + ", 1, MAX)", BAD);
    }

    private void setNumber() {
        e.promise(2, "NUMBER (2)");
        setOneOf(2, 9);
    }

    private void setStreet() {
        e.promise(2, "STREET (3)");
        setOneOf(3, 1);
    }

    private void setShaken() {
        e.promise(2, "SHAKEN (4)");
        setOneOf(4, 1);
    }

    private void setOfNone() {
        e.promise(2, "of a BARGAIN");
        Run x = e.run(Busy::fullOfBargains);
        x.due("set(2, 5, 3)", 1);
        x.due("set(3, 5, 0)", 1);
        x.due("set(4, 5, 1)", 0);
        x.due("set(2, 0, 3)", 8);
        for (int what = 2; what <= 4; what++) {
            e.refused("set(" + what + ", -1, 0)", BAD);
            e.refused("set(" + what + ", 5, 1)", BAD);
            e.refused("set(" + what + ", MIN, 1)", BAD);
            e.refused("set(" + what + ", MAX, 0)", BAD);
            e.refusedIn(Busy::fullOfBargains, "set(" + what + ", 6, 1)", BAD);
            e.run().due("set(" + what + ", 0, 0)", BAD);
        }
    }

    private void setTellsWhatWas() {
        e.promise(2, "becomes v: what it was.");
        Run x = e.run(Busy::market);
        x.due("set(0, 0, 2)", 2);
        x.due("set(1, 112, 7)", 7);
        x.due("set(2, 1, 4)", 4);
        x.due("set(3, 4, 1)", 1);
        x.due("set(4, 0, 1)", 1);
        e.same(Busy::market, x, "set as it is");
        // one thing becomes otherwise, and comes back
        Run y = e.run(Busy::market);
        y.due("set(0, 0, 3)", 2);
        y.due("set(1, 112, 8)", 7);
        y.due("set(2, 1, 5)", 4);
        y.due("set(3, 4, 0)", 1);
        y.due("set(4, 0, 0)", 1);
        y.due("set(4, 0, 1)", 0);
        y.due("set(3, 4, 1)", 0);
        y.due("set(2, 1, 4)", 5);
        y.due("set(1, 112, 7)", 8);
        y.due("set(0, 0, 2)", 3);
        e.same(Busy::market, y, "set back");
    }

    private void setWhat() {
        e.promise(2, "BAD.");
        refusedEach(BAD, "set(-1, 0, 0)", "set(5, 0, 0)", "set(5, 1, 1)", "set(6, 0, 0)", "set(MIN, 0, 0)",
            "set(MAX, 0, 0)");
    }

    private void bargain() {
        e.promise(3, "A BARGAIN: its number.");
        Run x = e.run();
        x.due("bargain(0, 0, 0)", 0);
        x.due("bargain(5, 9, 1)", 1);
        x.due("bargain(1, 9, 0)", 2);
        x.due("bargain(4, 0, 1)", 3);
        x.due("count(0)", 4);
        long[][] told = {{0, 0, 0, 0}, {9, 1, 0, 5}, {9, 0, 0, 1}, {0, 1, 0, 4}};
        for (int b = 0; b < 4; b++) {
            for (int what = 2; what <= 5; what++) {
                x.due("told(" + b + ", " + what + ")", told[b][what - 2]);
            }
        }
    }

    private void bargainBad() {
        e.promise(3, "BAD;");
        refusedEach(BAD, "bargain(-1, 0, 0)", "bargain(6, 0, 0)", "bargain(MIN, 0, 0)", "bargain(MAX, 0, 0)");
        refusedEach(BAD, "bargain(0, -1, 0)", "bargain(0, 10, 0)", "bargain(0, MIN, 0)", "bargain(0, MAX, 0)");
        refusedEach(BAD, "bargain(0, 0, -1)", "bargain(0, 0, 2)", "bargain(0, 0, MIN)", "bargain(0, 0, MAX)");
        // BAD is named ahead of FULL
        e.refusedIn(Busy::fullOfBargains, "bargain(6, 0, 0)", BAD);
        e.refusedIn(Busy::fullOfBargains, "bargain(0, 10, 0)", BAD);
        e.refusedIn(Busy::fullOfBargains, "bargain(0, 0, 2)", BAD);
    }

    private void bargainFull() {
        e.promise(3, "FULL.");
        Run x = e.run(Busy::market);
        x.due("bargain(0, 0, 0)", 5);
        x.due("bargain(0, 0, 0)", FULL);
        e.refusedIn(Busy::fullOfBargains, "bargain(0, 0, 0)", FULL);
        // BARGAINS that are SHAKEN on keep their room; those that go give it back
        Run y = e.run(Busy::fullOfBargains);
        for (int b = 0; b < 6; b++) {
            y.call("set(4, " + b + ", 1)");
        }
        y.due("bargain(0, 0, 0)", FULL);
        y.due("back()", 4);
        y.due("bargain(0, 0, 0)", 4);
        y.due("bargain(0, 0, 0)", 5);
        y.due("bargain(0, 0, 0)", FULL);
    }

    private void toldAll() {
        e.promise(4, "What 0 .. 4 as of set(), 5 KIND.");
        Run x = e.run(Busy::market);
        x.due("told(MIN, 0)", 2);
        x.due("told(MAX, 0)", 2);
        x.due("told(0, 1)", 4);
        x.due("told(23, 1)", 0);
        x.due("told(100, 1)", 2);
        x.due("told(123, 1)", 6);
        x.due("told(0, 2)", 8);
        x.due("told(4, 2)", 7);
        x.due("told(0, 3)", 0);
        x.due("told(4, 3)", 1);
        x.due("told(0, 4)", 1);
        x.due("told(4, 4)", 0);
        x.dueEach("told(#, 5)", 0, 4, 3, 5, 1, BAD);
    }

    private void toldBad() {
        e.promise(4, "BAD.");
        refusedEach(BAD, "told(0, -1)", "told(0, 6)", "told(0, MIN)", "told(0, MAX)");
        refusedEach(BAD, "told(-1, 1)", "told(24, 1)", "told(99, 1)", "told(124, 1)", "told(200, 1)", "told(-77, 1)",
            "told(MIN, 1)");
        for (int what = 2; what <= 5; what++) {
            refusedEach(BAD, "told(-1, " + what + ")", "told(5, " + what + ")", "told(MIN, " + what + ")",
                "told(MAX, " + what + ")");
            e.refusedIn(Busy::fullOfBargains, "told(6, " + what + ")", BAD);
        }
    }

    private void termsOfRain() {
        e.terms("STREETS 0, 1; HOURS 0 .. 23;");
        Run x = e.run();
        x.due("set(1, 0, 1)", 0);
        x.due("set(1, 23, 1)", 0);
        x.due("set(1, 100, 1)", 0);
        x.due("set(1, 123, 1)", 0);
        refusedEach(BAD, "set(1, 24, 1)", "set(1, 124, 1)", "set(1, 200, 1)", "sky(-1, 0)", "sky(2, 0)");
        refusedEach(BAD, "asks(1, -1, 3)", "asks(1, 24, 3)", "bargain(0, 0, 2)", "set(3, 1, 2)");
        e.terms("RAIN: how much it rains in a STREET in an HOUR (0 .. 9; 0: dry; 0 at first).");
        Run y = e.run();
        y.due("told(0, 1)", 0);
        y.due("count(2)", 0);
        y.due("set(1, 0, 1)", 0);
        y.due("count(2)", 1);
        y.due("set(1, 0, 9)", 1);
        y.due("sky(0, 3)", 9);
        y.due("set(1, 0, 10)", BAD);
        y.due("set(1, 0, -1)", BAD);
        y.due("set(1, 0, 0)", 9);
        y.due("count(2)", 0);
        e.terms("WEST: how the sky looks (0 .. 9; 0 at first).");
        Run z = e.run();
        z.due("told(0, 0)", 0);
        z.due("set(0, 0, 9)", 0);
        z.due("set(0, 0, 10)", BAD);
        z.due("set(0, 0, -1)", BAD);
        z.due("set(0, 0, 0)", 9);
    }

    private void termsOfBargains() {
        e.terms("BARGAINS (6 at most, numbered from 0) have a KIND:");
        Run x = e.run();
        x.dueEach("bargain(#, 0, 0)", 0, 1, 2, 3, 4, 5);
        x.due("bargain(0, 0, 0)", FULL);
        x.due("count(0)", 6);
        e.terms("0 BARGAIN, 1 EGGS under BARGAIN, 2 CATTLE under BARGAIN, 3 CHEESE under EGGS, 4 COW under CATTLE, 5 UMBRELLA under BARGAIN;");
        x.dueEach("told(#, 5)", 0, 1, 2, 3, 4, 5);
        x.dueEach("taken(#, 0)", 0, 0, 0, 0, 0, 0);
        x.dueEach("taken(#, 1)", UNLIKE, 0, UNLIKE, 0, UNLIKE, UNLIKE);
        x.dueEach("taken(#, 2)", UNLIKE, UNLIKE, 0, UNLIKE, 0, UNLIKE);
        x.dueEach("taken(#, 3)", UNLIKE, UNLIKE, UNLIKE, 0, UNLIKE, UNLIKE);
        x.dueEach("taken(#, 4)", UNLIKE, UNLIKE, UNLIKE, UNLIKE, 0, UNLIKE);
        x.dueEach("taken(#, 5)", UNLIKE, UNLIKE, UNLIKE, UNLIKE, UNLIKE, 0);
        e.terms("a NUMBER (0 .. 9), a STREET (0, 1; 0 as one comes), were SHAKEN on or not (1, 0; not, as one comes).");
        Run y = e.run();
        // bargain() tells in which STREET it comes, so that 0 is but what is told of one there
        y.due("bargain(0, 0, 0)", 0);
        y.due("told(0, 3)", 0);
        y.due("told(0, 4)", 0);
        y.due("bargain(0, 9, 1)", 1);
        y.due("told(1, 2)", 9);
        y.due("told(1, 3)", 1);
        y.due("told(1, 4)", 0);
        y.due("set(4, 1, 1)", 0);
        y.due("bargain(0, 9, 0)", 2);
        y.due("told(2, 4)", 0);
        y.due("set(2, 0, 10)", BAD);
        y.due("set(3, 0, 2)", BAD);
        y.due("set(4, 0, 2)", BAD);
    }

    private void termsOfRefusals() {
        e.terms("Quotients are cut toward 0.");
        Run x = e.run();
        x.call("bargain(1, 0, 0)");
        x.call("bargain(4, 8, 0)");
        x.rule("5", "1", "1");
        x.due("asks(0, 0, 0)", 2); // 5 by 2
        x.due("asks(1, 0, 0)", 5 + 2 + 2); // 8 by 3
        e.terms("Refusals, the first that the call's words name; they change nothing:");
        e.refusedIn(Busy::fullOfBargains, "bargain(6, 0, 0)", BAD);
        e.refusedIn(Busy::fullTape, "feed(256)", BAD);
        e.refusedIn(Busy::fiveLeft, "water(2)", BAD);
        refusedEach(BAD, "tour(3, 4)", "tells(3, 5, 0)", "sheet(4, 0, -1)", "copy(3, -1, 4, 0, 1)",
            "bargains(3, 3, -1, 1)", "taken(9, 6)");
        refusedEach(NOTHING, "cell(3, -1, 0)", "copy(0, -1, 3, 0, 1)", "bargains(3, 0, -1, 1)");
        refusedEach(UNLIKE, "copy(0, -1, 1, 0, 1)", "bargains(0, 1, -1, 1)");
        e.terms("BAD (-2: a number is none such or not as told), STATE (-3), FULL (-4);");
        e.refused("count(6)", -2);
        e.refused("tour(1, 0)", -2);
        e.refusedIn(Busy::fiveLeft, "water(0)", -3);
        e.refusedIn(Busy::fullOfBargains, "bargain(0, 0, 0)", -4);
        e.terms("the host's: -11 nothing where something is asked, -12 a place outside, -13 a thing of another sort or KIND, -14 a size below 0.");
        e.refused("cell(3, 0, 0)", -11);
        e.refused("cell(0, 3, 0)", -12);
        e.refused("copy(0, 0, 1, 0, 1)", -13);
        e.refused("taken(0, 1)", -13);
        e.refused("sheet(0, 0, -1)", -14);
    }
}
