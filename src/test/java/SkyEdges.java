/** Promise 14; the terms on a SHOWER and on when it is SHUT. */
final class SkyEdges extends Part {
    private static final int ALL_HOURS = (1 << 24) - 1;

    SkyEdges(Edges e) {
        super(e);
    }

    @Override
    void all() {
        shower();
        showerStart();
        wetHours();
        allRain();
        shut();
        bad();
        termsOfShower();
        termsOfShut();
    }

    private Run sky(String first, String second) {
        Run x = e.run();
        x.rain(0, first);
        x.rain(1, second);
        return x;
    }

    private void shower() {
        e.promise(14, "SHOWER: how many HOURS (what 0),");
        e.run().due("sky(0, 0)", 0);
        Run x = sky(WET, "1");
        x.due("sky(0, 0)", 24);
        x.due("sky(1, 0)", 1);
        x.call("set(1, 0, 0)");
        x.due("sky(0, 0)", 23);
        x.call("set(1, 23, 0)");
        x.due("sky(0, 0)", 22);
    }

    private void showerStart() {
        e.promise(14, "the first (1; NONE: it is dry),");
        e.run().due("sky(0, 1)", NONE);
        e.run().due("sky(1, 1)", NONE);
        Run x = sky(WET, DRY);
        x.due("sky(0, 1)", 0);
        x.due("sky(1, 1)", NONE);
        x.call("set(1, 123, 1)");
        x.due("sky(1, 1)", 23);
        x.call("set(1, 100, 1)");
        x.due("sky(1, 1)", 0);
    }

    private void wetHours() {
        e.promise(14, "how many HOURS it rains in all (2),");
        e.run().due("sky(0, 2)", 0);
        Run x = sky(WET, "101001000000000000000000");
        x.due("sky(0, 2)", 24);
        x.due("sky(1, 2)", 3);
        x.call("set(1, 123, 1)");
        x.due("sky(1, 2)", 4);
    }

    private void allRain() {
        e.promise(14, "all RAIN, together (3);");
        e.run().due("sky(1, 3)", 0);
        Run x = sky(WET, "100000000000000000000008");
        x.due("sky(0, 3)", 216);
        x.due("sky(1, 3)", 9);
    }

    private void shut() {
        e.promise(14, "SHUT (4; bits; STREET does not matter, but must be one).");
        Run x = e.run();
        x.due("sky(0, 4)", ALL_HOURS);
        x.due("sky(1, 4)", ALL_HOURS);
        x.rain(0, WET);
        x.due("sky(0, 4)", 0);
        x.due("sky(1, 4)", 0);
        refusedEach(BAD, "sky(-1, 4)", "sky(2, 4)", "sky(MIN, 4)", "sky(MAX, 4)");
    }

    private void bad() {
        e.promise(14, "BAD.");
        for (int what = 0; what <= 4; what++) {
            refusedEach(BAD, "sky(-1, " + what + ")", "sky(2, " + what + ")");
        }
        refusedEach(BAD, "sky(0, -1)", "sky(0, 5)", "sky(1, -1)", "sky(1, 5)", "sky(1, MIN)", "sky(1, MAX)", "sky(2, 5)");
    }

    private void termsOfShower() {
        e.terms("SHOWER (a STREET): the most HOURS on end in which it rains; the first of them.");
        Run x = sky("110111000222000000000009", "000000000000000000000111");
        x.due("sky(0, 0)", 3);
        x.due("sky(0, 1)", 3); // of two as long the first
        x.due("sky(1, 0)", 3);
        x.due("sky(1, 1)", 21); // till the last HOUR, and not into the next day
        x.call("set(1, 12, 1)");
        x.due("sky(0, 0)", 4);
        x.due("sky(0, 1)", 9); // a longer one comes behind
        x.call("set(1, 2, 1)");
        x.due("sky(0, 0)", 6);
        x.due("sky(0, 1)", 0);
        // how much it rains does not matter
        x.rain(0, "900100011000000000000000");
        x.due("sky(0, 0)", 2);
        x.due("sky(0, 1)", 7);
        x.rain(0, "100000000000000000000001");
        x.due("sky(0, 0)", 1);
        x.due("sky(0, 1)", 0);
    }

    private void termsOfShut() {
        e.terms("SHUT: HOURS (bits) in which it rains in neither.");
        Run x = sky("011111111111111111111110", "000000000000000000000000");
        x.due("sky(0, 4)", 1 + (1 << 23));
        x.call("set(1, 100, 1)");
        x.due("sky(0, 4)", 1 << 23);
        x.call("set(1, 123, 9)");
        x.due("sky(0, 4)", 0);
        x.call("set(1, 5, 0)");
        x.due("sky(0, 4)", 1 << 5);
        x.call("set(1, 105, 1)");
        x.due("sky(1, 4)", 0);
    }
}
