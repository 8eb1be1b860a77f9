/** Promises 15 and 16; the terms on what a SHEET tells. */
final class ToldEdges extends Part {
    ToldEdges(Edges e) {
        super(e);
    }

    @Override
    void all() {
        firstOtherwise();
        whatCouldBe();
        rainThatCouldBe();
        tellsBad();
        tellsMissing();
        tellsTooMany();
        termsOfWorth();
        kinds();
        numbers();
        wests();
        done();
        texts();
        byWhichAllWouldBeSo();
        rain();
        film();
        filmBad();
    }

    private void firstOtherwise() {
        e.promise(15, "TOLD of a BARGAIN: the first that is otherwise (what 0; NONE),");
        Run x = e.run();
        x.call("bargain(0, 0, 0)");
        x.call("film(0, 0, 24)");
        x.due("tells(0, 0, 0)", NONE);
        x.call("cell(0, 23, 1)");
        x.due("tells(0, 0, 0)", 23);
        x.call("cell(0, 1, 18)");
        x.due("tells(0, 0, 0)", 1);
        x.call("cell(0, 0, 21)");
        x.due("tells(0, 0, 0)", 0);
        x.sheet(1, 2);
        x.due("tells(1, 0, 0)", NONE);
        x.sheet(1, 2, 20);
        x.due("tells(1, 0, 0)", NONE);
        x.sheet(1, 2, 19);
        x.due("tells(1, 0, 0)", 0);
        // of a SHEET of any sort; a byte, a short, an int tell what they hold
        x.sheet(1, 0, 256 + 20, 19);
        x.due("tells(1, 0, 0)", NONE);
        x.sheet(1, 1, 65536 + 20, 256 + 19);
        x.due("tells(1, 0, 0)", 1);
        x.sheet(1, 2, 65536 + 20, 19);
        x.due("tells(1, 0, 0)", 0);
    }

    private void whatCouldBe() {
        e.promise(15, "KINDS (1), NUMBERS (2), WESTS (3), DONE (4), TEXTS (5),");
        Run x = e.run();
        x.call("bargain(0, 0, 0)");
        x.sheet(0, 1);
        x.due("tells(0, 0, 1)", 63);
        x.due("tells(0, 0, 2)", 1023);
        x.due("tells(0, 0, 3)", 1023);
        x.due("tells(0, 0, 4)", 127);
        x.due("tells(0, 0, 5)", 1);
        x.sheet(0, 1, 777);
        x.dueEach("tells(0, 0, #)", 0, 0, 0, 0, 0, 0);
        // what could be is not what is
        for (int what = 0; what <= 5; what++) {
            e.unchanged(Busy::market, "tells(0, 4, " + what + ")", 0);
        }
        e.unchanged(Busy::market, "tells(0, 4, 10)", 0);
    }

    private void rainThatCouldBe() {
        e.promise(15, "RAIN in HOUR what less 10 (10 .. 33; bits).");
        Run x = e.run();
        x.rain(0, "123456789012345678901234");
        x.call("bargain(0, 0, 0)");
        x.rule("1", "1", "rain");
        x.call("film(0, 0, 24)");
        for (int h = 0; h < 24; h++) {
            x.due("tells(0, 0, " + (10 + h) + ")", 1 << ((h + 1) % 10));
        }
        x.due("told(23, 1)", 4);
        x.due("tells(0, 0, 9)", BAD);
        x.due("tells(0, 0, 34)", BAD);
    }

    private void tellsBad() {
        e.promise(15, "BAD: SHEET, no such BARGAIN, what;");
        int[] whats = {0, 1, 5, 10, 33};
        for (int what : whats) {
            refusedEach(BAD, "tells(-1, 1, " + what + ")", "tells(4, 1, " + what + ")", "tells(MIN, 1, " + what + ")");
            refusedEach(BAD, "tells(0, -1, " + what + ")", "tells(0, 5, " + what + ")", "tells(0, MAX, " + what + ")");
            e.refusedIn(Busy::fullOfBargains, "tells(0, 6, " + what + ")", BAD);
        }
        refusedEach(BAD, "tells(0, 1, -1)", "tells(0, 1, 6)", "tells(0, 1, 9)", "tells(0, 1, 34)", "tells(0, 1, MIN)",
            "tells(0, 1, MAX)");
        // named ahead of -11
        refusedEach(BAD, "tells(3, 5, 0)", "tells(3, -1, 10)", "tells(3, 1, 6)", "tells(3, 1, 34)", "tells(3, 1, -1)");
        Run x = e.run();
        x.sheet(0, 0);
        x.due("tells(0, 0, 0)", BAD);
    }

    private void tellsMissing() {
        e.promise(15, "-11;");
        int[] whats = {0, 1, 2, 3, 4, 5, 10, 33};
        for (int what : whats) {
            e.refused("tells(3, 4, " + what + ")", NOTHING);
        }
    }

    private void tellsTooMany() {
        e.promise(15, "BAD: it tells more than 24.");
        Run x = e.run();
        x.call("bargain(0, 1, 0)");
        x.call("sheet(0, 2, 24)");
        x.call("sheet(1, 2, 25)");
        x.call("sheet(2, 0, 40)");
        int[] whats = {0, 1, 2, 3, 4, 5, 10, 33};
        for (int what : whats) {
            x.due("tells(0, 0, " + what + ")", 0);
            x.due("tells(1, 0, " + what + ")", BAD);
            x.due("tells(2, 0, " + what + ")", BAD);
            e.refused("tells(2, 1, " + what + ")", BAD);
        }
    }

    private void termsOfWorth() {
        e.terms("TOLD: a SHEET tells WORTH of a BARGAIN, were hands shaken in HOURS 0, 1, .. (24 at most): the first that is otherwise; NONE;");
        Run x = e.run();
        x.call("bargain(4, 0, 0)");
        x.sheet(0, 1, 30, 29, 28, 27, 26, 25, 24, 23, 22, 21, 20, 19, 36, 34, 32, 30, 28, 26, 24, 22, 20, 20, 20, 20);
        x.due("tells(0, 0, 0)", NONE);
        x.call("cell(0, 23, 10)");
        x.due("tells(0, 0, 0)", 23);
        x.call("cell(0, 12, 18)");
        x.due("tells(0, 0, 0)", 12);
        x.call("sheet(1, 1, 25)");
        x.due("tells(1, 0, 0)", BAD);
    }

    private void kinds() {
        e.terms("KINDS (bits 0 .. 5),");
        Run x = e.run();
        for (int kind = 0; kind < 6; kind++) {
            x.call("bargain(" + kind + ", 9, 0)");
        }
        x.rule("1", "1", "30");
        long[] all = {3, 3, 4, 8, 16, 32};
        long[] first = {11, 11, 20, 11, 20, 32};
        for (int kind = 0; kind < 6; kind++) {
            x.call("film(0, " + kind + ", 24)");
            x.due("tells(0, 0, 1)", all[kind]);
            x.due("tells(0, 5, 1)", all[kind]);
            x.call("film(0, " + kind + ", 1)");
            x.due("tells(0, 3, 1)", first[kind]);
        }
    }

    /** By a value that is what could be: each row of that one item is told by its bit alone. */
    private void bitByItem(String value, int what, int bits) {
        Run x = e.run();
        x.call("bargain(0, 3, 0)");
        x.call("set(0, 0, 4)");
        x.rule("1", "1", value);
        for (int c = 0; c < bits; c++) {
            x.sheet(0, 2, c);
            x.due("tells(0, 0, " + what + ")", 1 << c);
        }
        x.sheet(0, 2, bits);
        x.due("tells(0, 0, " + what + ")", 0);
        x.sheet(0, 2, -1);
        x.due("tells(0, 0, " + what + ")", 0);
        x.sheet(0, 2);
        x.due("tells(0, 0, " + what + ")", (1 << bits) - 1);
    }

    private void numbers() {
        e.terms("NUMBERS (bits 0 .. 9),");
        bitByItem("number", 2, 10);
    }

    private void wests() {
        e.terms("WESTS (bits 0 .. 9),");
        bitByItem("west", 3, 10);
    }

    private void done() {
        e.terms("DONE (bits 0 .. 6: were so many SHAKEN on ahead),");
        bitByItem("done", 4, 7);
    }

    private void texts() {
        e.terms("TEXTS (bits), were they THE RULE,");
        Run x = e.run();
        x.call("bargain(0, 3, 0)");
        x.sheet(0, 0);
        for (int t = 1; t <= 5; t++) {
            x.due("tells(0, 0, 5)", (1 << t) - 1);
            x.text("needs 1;takes 1;value " + t + ";");
        }
        x.due("tells(0, 0, 5)", 63);
        for (int t = 1; t <= 5; t++) {
            x.sheet(0, 0, t);
            x.due("tells(0, 0, 5)", 1 << t);
        }
        x.sheet(0, 0, 20);
        x.due("tells(0, 0, 5)", 1);
        x.sheet(0, 0, 6);
        x.due("tells(0, 0, 5)", 0);
        x.due("count(5)", 0);
    }

    private void byWhichAllWouldBeSo() {
        e.terms("by which all would be so;");
        Run x = e.run();
        x.call("bargain(0, 3, 0)");
        x.rule("1", "1", "number*hour");
        x.sheet(0, 2, 0, 5, 10);
        x.due("tells(0, 0, 2)", 1 << 5);
        x.call("cell(0, 2, 11)");
        x.due("tells(0, 0, 2)", 0);
        x.call("cell(0, 2, 10)");
        x.call("cell(0, 0, 1)");
        x.due("tells(0, 0, 2)", 0);
        x.sheet(0, 2, 0);
        x.due("tells(0, 0, 2)", 1023);
    }

    private void rain() {
        e.terms("of RAIN in the STREET of it in one HOUR what it could be (bits 0 .. 9).");
        Run x = e.run();
        x.rain(0, "4");
        x.rain(1, "60");
        x.call("bargain(0, 3, 0)");
        x.call("bargain(0, 3, 1)");
        x.rule("1", "1", "rain");
        for (int c = 0; c <= 9; c++) {
            x.sheet(0, 0, c);
            x.due("tells(0, 0, 10)", 1 << c);
            x.due("tells(0, 1, 10)", 1 << c);
            // RAIN of another HOUR makes it so, or not, as it is
            x.due("tells(0, 0, 11)", c == 4 ? 1023 : 0);
            x.due("tells(0, 1, 33)", c == 6 ? 1023 : 0);
        }
        x.sheet(0, 0, 10);
        x.due("tells(0, 0, 10)", 0);
        x.sheet(0, 0);
        x.due("tells(0, 0, 10)", 1023);
        x.sheet(0, 0, 6, 0, 0);
        x.due("tells(0, 1, 12)", 1);
        x.due("tells(0, 1, 10)", 1 << 6);
        x.due("told(100, 1)", 6);
    }

    private void film() {
        e.promise(16,
            "A SHEET truly becomes WORTH of a BARGAIN, were hands shaken in HOURS 0, .., n less 1 (n 0 .. 24; shorts): n.");
        Run x = e.run();
        x.rain(0, "123456789012345678901234");
        x.call("bargain(0, 0, 0)");
        x.rule("1", "1", "rain");
        int[] sizes = {24, 1, 0, 23};
        for (int n : sizes) {
            x.due("film(1, 0, " + n + ")", n);
            x.due("bargains(1, 0, 0, 0)", UNLIKE);
            x.due("bargains(1, 1, 0, 0)", 0);
            x.due("bargains(1, 2, 0, 0)", UNLIKE);
            x.due("cell(1, " + n + ", 0)", OUTSIDE);
            x.due("tells(1, 0, 0)", NONE);
        }
        // each item by what RAIN it could be
        x.call("sheet(2, 1, 1)");
        for (int h = 0; h < 23; h++) {
            x.due("copy(1, " + h + ", 2, 0, 1)", 1);
            x.due("tells(2, 0, 10)", 1 << ((h + 1) % 10));
        }
        // a missing one, one of bytes, one of forty become a row of n shorts
        x.call("sheet(0, 0, 40)");
        x.due("film(0, 0, 2)", 2);
        x.due("cell(0, 1, 0)", 1);
        x.due("cell(0, 2, 0)", OUTSIDE);
        x.due("bargains(0, 1, 0, 0)", 0);
        x.due("film(3, 0, 24)", 24);
        x.due("cell(3, 23, 0)", 1);
        // truly: by what is SHAKEN on, the WEST
        x.rule("1", "1", "done*10+west");
        x.call("set(0, 0, 7)");
        x.call("set(4, 0, 1)");
        x.call("film(0, 0, 1)");
        x.sheet(3, 1, 17);
        x.due("tells(3, 0, 0)", NONE);
        x.due("tells(0, 0, 0)", NONE);
    }

    private void filmBad() {
        e.promise(16, "BAD.");
        refusedEach(BAD, "film(-1, 0, 1)", "film(4, 0, 1)", "film(MIN, 0, 1)", "film(MAX, 0, 1)");
        refusedEach(BAD, "film(0, -1, 1)", "film(0, 5, 1)", "film(3, MIN, 1)", "film(3, MAX, 1)");
        refusedEach(BAD, "film(0, 0, -1)", "film(0, 0, 25)", "film(3, 0, MIN)", "film(3, 0, MAX)");
        e.refusedIn(Busy::fullOfBargains, "film(0, 6, 1)", BAD);
        e.run().due("film(0, 0, 1)", BAD);
    }
}
