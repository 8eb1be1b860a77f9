/** Promises 11 to 13; the terms on BEST, FEW, LEAVE, WATER. */
final class BestEdges extends Part {
    BestEdges(Edges e) {
        super(e);
    }

    @Override
    void all() {
        best();
        bestGain();
        bestLeave();
        bestBad();
        ofAllTours();
        ofLikeOnes();
        asDigits();
        few();
        fewBad();
        fewOfThem();
        leave();
        water();
        waterBad();
        waterState();
        waterPlaces();
        waterOfNine();
        waterIfMore();
        waterOfLikeOnes();
        nothingChanges();
    }

    private void best() {
        e.promise(11, "BEST (what 0; 0: none are left),");
        e.run().due("best(0)", 0);
        Run x = wet(6, "1");
        x.due("best(0)", 123456);
        for (int b = 0; b < 5; b++) {
            x.call("set(4, " + b + ", 1)");
        }
        x.due("best(0)", 6);
        x.call("set(4, 5, 1)");
        x.due("best(0)", 0);
        // none gains a thing, so that none is the best
        Run y = wet(2, "0");
        y.due("best(0)", 0);
        y.rain(0, DRY);
        y.due("best(0)", 0);
    }

    private void bestGain() {
        e.promise(11, "GAIN then (1),");
        e.run().due("best(1)", 0);
        Run x = wet(6, "7");
        x.due("best(1)", 42);
        e.promise(11, "GAIN (3; as 1).");
        x.due("best(3)", 42);
        e.run().due("best(3)", 0);
        x.rain(0, "1" + DRY.substring(1));
        x.due("best(1)", 7);
        x.due("best(3)", 7);
        x.due("best(2)", 0);
    }

    private void bestLeave() {
        e.promise(11, "LEAVE (2; NONE),");
        e.run().due("best(2)", NONE);
        Run x = wet(6, "number");
        x.due("best(2)", 0); // NUMBER 0 is worth nothing
        x.call("set(2, 0, 1)");
        x.due("best(2)", NONE);
        x.call("set(2, 5, 0)");
        x.due("best(2)", 5);
        for (int b = 0; b < 6; b++) {
            x.call("set(4, " + b + ", 1)");
        }
        x.due("best(2)", NONE);
    }

    private void bestBad() {
        e.promise(11, "BAD.");
        refusedEach(BAD, "best(-1)", "best(4)", "best(MIN)", "best(MAX)");
    }

    private void ofAllTours() {
        e.terms("BEST: of all TOURS (also of some) of those that aren't SHAKEN on that of most GAIN;");
        Run x = wet(3, "(number+1)*(4-done)");
        x.due("best(0)", 321);
        x.due("best(1)", 12 + 6 + 2);
        x.call("set(4, 2, 1)");
        x.due("best(0)", 21);
        x.due("best(1)", 6 + 2);
        // of some: a third would gain no more
        Run y = wet(3, "9*(done<2)");
        y.due("best(0)", 12);
        y.due("best(1)", 18);
        // the last HOUR is for the one that is worth most
        Run z = wet(3, "number");
        z.rain(0, "000000000000000000000001");
        z.due("best(0)", 3);
        z.due("best(1)", 2);
        z.rain(0, "000000000000000000000011");
        z.due("best(0)", 23);
        z.due("best(1)", 3);
    }

    private void ofLikeOnes() {
        e.terms("of like ones the first (one is looked at ahead of all that go on from it; these by who is next, the least number first),");
        wet(6, "5").due("best(0)", 123456);
        wet(6, "0").due("best(0)", 0);
        wet(6, "5*(done<1)").due("best(0)", 1);
        wet(6, "5*(done<5)").due("best(0)", 12345);
        Run x = wet(3, "5*(done<2)");
        x.call("set(3, 0, 1)");
        x.rain(1, DRY);
        // 1, then 2, of which 1 is left out, is looked at ahead of 2 alone
        x.due("best(0)", 123);
        x.call("set(3, 1, 1)");
        x.due("best(0)", 123);
        x.call("set(3, 0, 0)");
        x.due("best(0)", 123);
        x.call("set(3, 2, 1)");
        x.due("best(0)", 1);
        // the last must be the first; of the others the least number is next
        Run y = wet(3, "5+5*(number=2)*(done<1)");
        y.due("best(0)", 312);
    }

    private void asDigits() {
        e.terms("as digits (1 more than each, the first the highest).");
        Run x = wet(6, "number*(6-done)");
        x.call("set(2, 0, 6)");
        // NUMBERS 6, 1, 2, 3, 4, 5
        x.due("best(0)", 165432);
        x.call("set(4, 0, 1)");
        x.due("best(0)", 65432);
        x.call("set(4, 5, 1)");
        x.due("best(0)", 5432);
    }

    private void few() {
        e.promise(12, "FEW.");
        Run x = wet(6, "number");
        x.dueEach("few(#)", 0, 5, 9, 12, 14, 15, 15);
        x.call("set(2, 0, 9)");
        x.due("few(5)", 23);
        x.due("few(6)", 24);
    }

    private void fewBad() {
        e.promise(12, "BAD: n (0 .. 6).");
        Run x = e.run();
        x.due("few(0)", 0);
        x.due("few(6)", 0);
        refusedEach(BAD, "few(-1)", "few(7)", "few(MIN)", "few(MAX)");
    }

    private void fewOfThem() {
        e.terms("FEW (n): of TOURS of n of them or fewer the most GAIN.");
        Run x = wet(2, "number+1");
        x.dueEach("few(#)", 0, 2, 3, 3, 3, 3, 3);
        x.call("set(4, 1, 1)");
        x.dueEach("few(#)", 0, 1, 1);
        // a second gains nothing, so that fewer do as much
        Run y = wet(4, "5*(done<2)");
        y.dueEach("few(#)", 0, 5, 10, 10, 10);
    }

    private void leave() {
        e.terms("LEAVE: the first one without which BEST has no less GAIN; NONE.");
        Run x = wet(3, "5*(done<2)");
        x.due("best(2)", 0);
        Run y = wet(3, "number*(done<2)");
        // NUMBERS 1 and 2 gain 3, without one of them 2 or 1
        y.due("best(2)", 0);
        y.call("set(2, 0, 9)");
        y.due("best(2)", 1);
        y.call("set(2, 1, 8)");
        y.due("best(2)", 2);
        y.call("set(2, 2, 8)");
        y.due("best(2)", 1); // 1 and 2 are alike: the first
        // one that is SHAKEN on is none of them
        Run z = wet(2, "0");
        z.due("best(2)", 0);
        z.call("set(4, 0, 1)");
        z.due("best(2)", 1);
        z.call("set(4, 1, 1)");
        z.due("best(2)", NONE);
        Run one = wet(1, "1");
        one.due("best(2)", NONE);
        one.rain(0, DRY);
        one.due("best(2)", 0);
    }

    /** One BARGAIN in a STREET of the dry, by a rule. */
    private Run dry(int street, String needs, String value) {
        Run x = e.run();
        x.call("bargain(0, 0, " + street + ")");
        x.rule(needs, "1", value);
        return x;
    }

    private void watered(Run x, long place, long gain) {
        x.due("water(0)", place);
        x.due("water(1)", gain);
    }

    private void water() {
        e.promise(13, "WATER (what 0; NONE), GAIN then (1; as so, if none).");
        watered(e.run(), NONE, 0);
        watered(dry(0, "1", "7"), 0, 7);
        watered(dry(1, "1", "7*(hour=23)"), 123, 7);
        Run x = dry(0, "1", "7");
        x.call("set(1, 3, 1)");
        watered(x, NONE, 7);
        x.call("set(4, 0, 1)");
        watered(x, NONE, 0);
    }

    private void waterBad() {
        e.promise(13, "BAD;");
        refusedEach(BAD, "water(-1)", "water(2)", "water(MIN)", "water(MAX)");
        // named ahead of STATE
        e.refusedIn(Busy::fiveLeft, "water(-1)", BAD);
        e.refusedIn(Busy::fiveLeft, "water(2)", BAD);
    }

    private void waterState() {
        e.promise(13, "STATE: more than 4 BARGAINS aren't SHAKEN on.");
        e.refusedIn(Busy::fiveLeft, "water(0)", STATE);
        e.refusedIn(Busy::fiveLeft, "water(1)", STATE);
        Run x = wet(4, "1");
        watered(x, NONE, 4);
        x.call("bargain(0, 0, 0)");
        watered(x, STATE, STATE);
        x.call("set(4, 4, 1)");
        watered(x, NONE, 4);
        x.call("bargain(0, 0, 0)");
        watered(x, STATE, STATE);
        x.call("set(4, 0, 1)");
        watered(x, NONE, 4);
        x.call("set(4, 0, 0)");
        x.call("set(4, 4, 0)");
        watered(x, STATE, STATE);
    }

    private void waterPlaces() {
        e.terms("WATER: the STREET and HOUR (100 times the STREET, and the HOUR)");
        for (int street = 0; street < 2; street++) {
            watered(dry(street, "1", "7*(hour=0)"), 100 * street, 7);
            watered(dry(street, "1", "7*(hour=1)"), 100 * street + 1, 7);
            watered(dry(street, "1", "7*(hour=23)"), 100 * street + 23, 7);
        }
        watered(dry(0, "1", "hour"), 23, 23);
        watered(dry(1, "1", "hour"), 123, 23);
    }

    private void waterOfNine() {
        e.terms("in which 9 of RAIN, instead of what there is, makes BEST gain most,");
        watered(dry(0, "9", "7"), 0, 7);
        watered(dry(0, "1", "rain"), 0, 9);
        Run x = dry(0, "1", "rain*10");
        x.rain(0, "888888888888888888888888");
        watered(x, 0, 90);
        x.call("set(1, 0, 9)");
        watered(x, NONE, 90);
        // it is one HOUR alone: that which was looked at ahead is as it is again
        Run two = dry(0, "1", "rain*10");
        two.call("bargain(0, 0, 0)");
        two.rain(0, "888888888888888888888888");
        watered(two, 0, 90 + 80);
        two.rule("1+(rain=9)", "1+(rain=9)", "10+hour");
        watered(two, 0, 11 + 12);
        // a dry HOUR between two, watered, makes three on end
        Run y = e.run();
        y.call("bargain(0, 0, 1)");
        y.rule("5", "3", "hour");
        y.rain(1, "000550500000000000000000");
        watered(y, 105, 5);
        y.call("set(1, 103, 0)");
        watered(y, 105, 6);
        y.call("set(1, 104, 0)");
        watered(y, NONE, 0);
    }

    private void waterIfMore() {
        e.terms("makes BEST gain most, if more than so;");
        Run x = dry(0, "1", "9-rain");
        x.call("set(1, 0, 1)");
        watered(x, NONE, 8); // 9 of RAIN would gain 0
        Run y = dry(0, "1", "5");
        y.call("set(1, 23, 9)");
        watered(y, NONE, 5); // as much, but no more
        y.call("bargain(0, 0, 0)");
        watered(y, 0, 10);
        Run z = dry(0, "1", "0");
        watered(z, NONE, 0);
    }

    private void waterOfLikeOnes() {
        e.terms("of like ones the first; NONE.");
        watered(dry(1, "1", "7"), 100, 7);
        Run x = dry(1, "1", "7");
        x.call("bargain(0, 0, 0)");
        watered(x, 0, 7); // STREET 0 ahead of STREET 1
        Run y = dry(0, "1", "hour*(hour<9)+8*(8<hour)");
        watered(y, 8, 8); // HOURS 8, 9, .. are alike
        watered(dry(0, "1", "0"), NONE, 0);
    }

    private void nothingChanges() {
        e.terms("instead of what there is");
        // the COW in HOURS 0 and 1, the UMBRELLA in HOUR 2, the EGGS in HOUR 12
        e.unchanged(Busy::market, "best(0)", 245);
        e.unchanged(Busy::market, "best(1)", 14 + 9 + 7);
        e.unchanged(Busy::market, "best(2)", NONE);
        e.unchanged(Busy::market, "few(6)", 14 + 9 + 7);
        e.unchanged(Busy::market, "water(0)", NONE);
        e.unchanged(Busy::market, "water(1)", 14 + 9 + 7);
    }
}
