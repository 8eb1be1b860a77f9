import java.util.function.Consumer;

/** Promises 9 and 10; the terms on TOURS. */
final class TourEdges extends Part {
    TourEdges(Edges e) {
        super(e);
    }

    @Override
    void all() {
        gain();
        howManyAreDealt();
        lastHour();
        leftOut();
        tourBad();
        tourMissing();
        tourOfNoTour();
        deal();
        dealRefused();
        whatATourIs();
        fromWhichHour();
        whatIsLeftOut();
        done();
        gainTogether();
        truly();
    }

    /** SHEETS of none, of the last BARGAIN, of all six; by a value of 1 more than each number, one an HOUR. */
    private Run sheets() {
        Run x = wet(6, "number+1");
        x.sheet(0, 0);
        x.sheet(1, 1, 5);
        x.sheet(2, 2, 0, 1, 2, 3, 4, 5);
        return x;
    }

    private void gain() {
        e.promise(9, "The TOUR of a SHEET: GAIN (what 0),");
        Run x = sheets();
        x.due("tour(0, 0)", 0);
        x.due("tour(1, 0)", 6);
        x.due("tour(2, 0)", 21);
        x.sheet(3, 0, 5);
        x.due("tour(3, 0)", 6);
    }

    private void howManyAreDealt() {
        e.promise(9, "how many are DEALT (1),");
        Run x = sheets();
        x.due("tour(0, 1)", 0);
        x.due("tour(1, 1)", 1);
        x.due("tour(2, 1)", 6);
        x.rain(0, DRY);
        x.due("tour(2, 1)", 0);
        x.due("tour(1, 1)", 0);
        x.call("set(3, 5, 1)");
        x.due("tour(2, 1)", 1);
    }

    private void lastHour() {
        e.promise(9, "in which HOUR hands are shaken last (2; NONE),");
        Run x = sheets();
        x.due("tour(0, 2)", NONE);
        x.due("tour(1, 2)", 0);
        x.due("tour(2, 2)", 5);
        x.rain(0, DRY);
        x.due("tour(1, 2)", NONE);
        x.due("tour(2, 2)", NONE);
        x.call("set(1, 23, 1)");
        x.due("tour(1, 2)", 23);
        x.due("tour(2, 2)", 23);
        x.call("set(1, 22, 1)");
        x.due("tour(2, 2)", 23);
        x.due("tour(1, 2)", 22);
    }

    private void leftOut() {
        e.promise(9, "which are left out (3; bits).");
        Run x = sheets();
        x.due("tour(0, 3)", 0);
        x.due("tour(1, 3)", 0);
        x.due("tour(2, 3)", 0);
        x.rain(1, DRY);
        x.call("set(3, 5, 1)");
        x.due("tour(2, 3)", 32);
        x.due("tour(1, 3)", 32); // of its number, not of its place
        x.call("set(3, 0, 1)");
        x.due("tour(2, 3)", 33);
        x.rain(0, DRY);
        x.due("tour(2, 3)", 63);
        x.due("tour(1, 3)", 32);
        x.due("tour(0, 3)", 0);
    }

    private void tourBad() {
        e.promise(9, "BAD: SHEET, what;");
        for (int what = 0; what <= 3; what++) {
            refusedEach(BAD, "tour(-1, " + what + ")", "tour(4, " + what + ")", "tour(MIN, " + what + ")",
                "tour(MAX, " + what + ")");
        }
        refusedEach(BAD, "tour(0, -1)", "tour(0, 4)", "tour(0, MIN)", "tour(0, MAX)");
        // named ahead of -11
        refusedEach(BAD, "tour(3, -1)", "tour(3, 4)");
    }

    private void tourMissing() {
        e.promise(9, "-11;");
        for (int what = 0; what <= 3; what++) {
            e.refused("tour(3, " + what + ")", NOTHING);
            for (int sheet = 0; sheet < 4; sheet++) {
                e.run().due("tour(" + sheet + ", " + what + ")", NOTHING);
            }
        }
        // a row of none is there
        Run x = e.run();
        x.sheet(0, 2);
        x.due("tour(0, 0)", 0);
        x.call("sheet(0, -1, 0)");
        x.due("tour(0, 0)", NOTHING);
    }

    /** The busy market, but SHEET 0 is such a row. */
    private static Consumer<Run> with(int sort, int... items) {
        return x -> {
            Busy.market(x);
            x.sheet(0, sort, items);
        };
    }

    /** Rows that tell no TOUR of the busy market, of which 1, 3 and 4 aren't SHAKEN on. */
    private void noTours(String call) {
        int[][] rows = {{5}, {-1}, {Integer.MIN_VALUE}, {Integer.MAX_VALUE}, {1, 3, 4, 5}, {0}, {2}, {1, 3, 2}, {1, 1},
            {4, 3, 4},
            {1, 3, 4, 1}, {1, 3, 4, 0, 2}, {1, 3, 4, 1, 3, 4, 1}, new int[40]};
        for (int[] row : rows) {
            e.refusedIn(with(2, row), call, BAD);
        }
        e.refusedIn(with(0, 255), call, BAD);
        e.refusedIn(with(1, 65535), call, BAD);
    }

    private void tourOfNoTour() {
        e.promise(9, "BAD: it tells no TOUR.");
        for (int what = 0; what <= 3; what++) {
            noTours("tour(0, " + what + ")");
        }
        e.unchanged(with(2, 1, 3, 4), "tour(0, 1)", 3);
        e.run(with(0, 256 + 4)).due("tour(0, 1)", 1);
        Run y = e.run();
        y.sheet(0, 0, 0);
        y.due("tour(0, 0)", BAD);
        y.call("bargain(0, 0, 0)");
        y.due("tour(0, 0)", 0);
        y.call("set(4, 0, 1)");
        y.due("tour(0, 0)", BAD);
    }

    private void deal() {
        e.promise(10, "TRUE: GAIN.");
        Run x = sheets();
        x.due("deal(0)", 0);
        x.due("count(1)", 0);
        x.due("deal(1)", 6);
        x.due("count(1)", 1);
        x.sheet(2, 0, 0, 1, 2, 3, 4);
        x.due("deal(2)", 15);
        x.due("count(1)", 6);
        x.due("deal(0)", 0);
        e.unchanged(with(0), "deal(0)", 0);
    }

    private void dealRefused() {
        e.promise(10, "BAD: SHEET;");
        refusedEach(BAD, "deal(-1)", "deal(4)", "deal(MIN)", "deal(MAX)");
        e.promise(10, "-11;");
        e.refused("deal(3)", NOTHING);
        for (int sheet = 0; sheet < 4; sheet++) {
            e.run().due("deal(" + sheet + ")", NOTHING);
        }
        e.promise(10, "BAD: it tells no TOUR.");
        noTours("deal(0)");
        Run x = sheets();
        x.due("deal(2)", 21);
        x.due("deal(2)", BAD);
        x.due("deal(1)", BAD);
        x.due("count(1)", 6);
    }

    private void whatATourIs() {
        e.terms("A TOUR: some BARGAINS, none twice, not SHAKEN on, in an order;");
        Run x = wet(6, "number*hour");
        x.sheet(0, 0);
        x.due("tour(0, 0)", 0);
        x.sheet(0, 0, 0, 1);
        x.due("tour(0, 0)", 1);
        x.sheet(0, 0, 1, 0);
        x.due("tour(0, 0)", 0);
        x.sheet(0, 0, 5, 4, 3, 2, 1, 0);
        x.due("tour(0, 0)", 4 + 6 + 6 + 4);
        x.sheet(0, 0, 5, 4, 3, 2, 1, 0, 0);
        x.due("tour(0, 0)", BAD);
        x.sheet(0, 0, 5, 5);
        x.due("tour(0, 0)", BAD);
        x.sheet(0, 0, 5);
        x.due("tour(0, 0)", 0);
        x.call("set(4, 5, 1)");
        x.due("tour(0, 0)", BAD);
    }

    private void fromWhichHour() {
        e.terms("the first is DEALT from HOUR 0 on, each next one from the HOUR behind that in which hands were shaken last;");
        Run x = wet(3); // TEXT 0: two HOURS each
        x.rain(0, "222200000000000000000000");
        x.sheet(0, 0, 0, 1);
        x.due("tour(0, 0)", 19 + 17);
        x.due("tour(0, 2)", 3);
        x.call("set(1, 3, 0)");
        x.due("tour(0, 0)", 19);
        x.due("tour(0, 2)", 1);
        x.due("tour(0, 3)", 2);
        x.rain(0, "220220000000000000000022");
        x.due("tour(0, 0)", 19 + 16);
        x.sheet(0, 0, 0, 1, 2);
        x.due("tour(0, 0)", 19 + 16 + 0);
        x.due("tour(0, 2)", 23);
        // none is behind HOUR 23, and the day does not begin anew
        x.rain(0, "000000000000000000000022");
        x.due("tour(0, 1)", 1);
        x.due("tour(0, 3)", 6);
        // one that is left out moves no HOUR
        x.rain(0, "222200000000000000000000");
        x.rain(1, DRY);
        x.call("set(3, 1, 1)");
        x.due("tour(0, 0)", 19 + 17);
        x.due("tour(0, 3)", 2);
    }

    private void whatIsLeftOut() {
        e.terms("what can't be DEALT is left out.");
        Run x = wet(3, "7");
        x.rain(0, DRY);
        x.rain(1, "1");
        x.sheet(0, 0, 0, 1, 2);
        x.due("tour(0, 1)", 0);
        x.due("tour(0, 3)", 7);
        x.call("set(1, 5, 1)");
        x.due("tour(0, 1)", 1);
        x.due("tour(0, 3)", 6);
        x.call("set(3, 0, 1)");
        x.due("tour(0, 1)", 2);
        x.due("tour(0, 3)", 4);
    }

    private void done() {
        e.terms("(done: SHAKEN on truly, and in the TOUR so far.)");
        Run x = wet(6, "done*10");
        x.sheet(0, 0, 0, 1, 2);
        x.due("tour(0, 0)", 0 + 10 + 20);
        x.call("set(4, 5, 1)");
        x.due("tour(0, 0)", 10 + 20 + 30);
        // one that is left out is not SHAKEN on
        x.rain(1, DRY);
        x.call("set(3, 1, 1)");
        x.due("tour(0, 0)", 10 + 20);
        // the next TOUR begins anew
        x.due("tour(0, 0)", 10 + 20);
        x.call("set(3, 1, 0)");
        x.rule("1", "done", "hour");
        // HOUR 0; 1 and 2; 3, 4 and 5
        x.due("tour(0, 0)", 0 + 2 + 5);
        x.rain(0, "3214");
        x.rule("done+1", "1", "hour");
        // NEEDS 2 in HOUR 0, 3: left out till HOUR 3, 4: in HOUR 4
        x.due("tour(0, 0)", 0 + 3 + 4);
    }

    private void gainTogether() {
        e.terms("GAIN: WORTH of all that are DEALT, together.");
        Run x = wet(6, "99");
        x.rain(1, DRY);
        x.sheet(0, 0, 0, 1, 2, 3, 4, 5);
        x.due("tour(0, 0)", 6 * 99);
        x.call("set(3, 3, 1)");
        x.due("tour(0, 0)", 5 * 99);
        // the most there can be: COWS by the evening
        Run y = e.run();
        y.rain(0, WET);
        for (int b = 0; b < 6; b++) {
            y.call("bargain(4, 0, 0)");
        }
        y.rule("9*(hour<12)", "1", "99");
        y.rain(0, "888888888888");
        y.sheet(0, 0, 0, 1, 2, 3, 4, 5);
        y.due("tour(0, 0)", 6 * 218);
        y.due("best(1)", 6 * 218);
    }

    private void truly() {
        e.terms("TRUE: the TOUR of a SHEET, truly: all that are DEALT are SHAKEN on.");
        Run x = wet(4, "10+done");
        x.rain(1, DRY);
        x.call("set(3, 1, 1)");
        x.sheet(0, 0, 1, 0, 3);
        x.due("tour(0, 0)", 10 + 11);
        x.dueEach("told(#, 4)", 0, 0, 0, 0);
        x.due("deal(0)", 10 + 11);
        x.dueEach("told(#, 4)", 1, 0, 0, 1);
        // it takes no HOUR away: what comes then is DEALT from HOUR 0 on
        x.sheet(0, 0, 2, 1);
        x.due("tour(0, 2)", 0);
        x.due("deal(0)", 12);
        x.dueEach("told(#, 4)", 1, 0, 1, 1);
        x.sheet(0, 0, 1);
        x.due("deal(0)", 0);
        x.due("count(1)", 3);
        x.due("told(0, 1)", 9);
    }
}
