/** Promises 22 to 26; the terms on SHEETS. */
final class HostEdges extends Part {
    HostEdges(Edges e) {
        super(e);
    }

    @Override
    void all() {
        termsOfSheets();
        sheet();
        sheetAllZero();
        sheetMissing();
        sheetBad();
        sheetBelowZero();
        cell();
        cellLowestBits();
        cellRefused();
        copy();
        copyAsTheyWere();
        copyBadAndMissing();
        copyUnlike();
        copyOutside();
        bargains();
        bargainsLeftOut();
        bargainsBad();
        bargainsUnlikeAndMissing();
        bargainsOutside();
        taken();
        takenRefused();
    }

    /** An object in which an item can be told: BARGAIN 0 is worth RAIN. */
    private Run teller() {
        Run x = e.run();
        x.call("bargain(0, 0, 0)");
        x.rule("1", "1", "rain");
        return x;
    }

    /** A SHEET is of a sort and has these items (0 .. 9, or none such: -1); SHEET 3 is used up for it. */
    private void has(Run x, int sheet, int sort, int... items) {
        x.due("bargains(" + sheet + ", " + sort + ", 0, 0)", 0);
        x.due("copy(" + sheet + ", " + items.length + ", " + sheet + ", 0, 0)", 0);
        x.due("cell(" + sheet + ", " + items.length + ", 0)", OUTSIDE);
        x.call("sheet(3, " + sort + ", 1)");
        for (int i = 0; i < items.length; i++) {
            x.due("copy(" + sheet + ", " + i + ", 3, 0, 1)", 1);
            x.due("tells(3, 0, 10)", items[i] < 0 ? 0 : 1 << items[i]);
        }
    }

    private void termsOfSheets() {
        e.terms("SHEETS 0 .. 3 are rows of numbers, or missing (as all are at first): of sort 0 bytes, 1 shorts, 2 ints.");
        Run x = e.run();
        for (int sheet = 0; sheet < 4; sheet++) {
            x.due("cell(" + sheet + ", 0, 0)", NOTHING);
            x.due("sheet(" + sheet + ", " + sheet % 3 + ", 1)", 1);
            x.due("cell(" + sheet + ", 0, 0)", 1);
        }
        x.dueEach("bargains(#, 0, 0, 0)", 0, UNLIKE, UNLIKE, 0);
        x.dueEach("bargains(#, 1, 0, 0)", UNLIKE, 0, UNLIKE, UNLIKE);
        x.dueEach("bargains(#, 2, 0, 0)", UNLIKE, UNLIKE, 0, UNLIKE);
        refusedEach(BAD, "cell(-1, 0, 0)", "cell(4, 0, 0)", "sheet(-1, 0, 0)", "sheet(4, 0, 0)", "sheet(0, 3, 0)");
    }

    private void sheet() {
        e.promise(22, "A SHEET becomes a row of n of a sort,");
        Run x = teller();
        int[] sizes = {0, 1, 40};
        for (int sort = 0; sort < 3; sort++) {
            for (int n : sizes) {
                x.due("sheet(0, " + sort + ", " + n + ")", 1);
                x.due("bargains(0, " + sort + ", 0, 0)", 0);
                x.due("cell(0, " + n + ", 1)", OUTSIDE);
                x.due("cell(0, " + (n - 1) + ", 1)", n == 0 ? OUTSIDE : 1);
            }
        }
        // the others stay
        x.sheet(1, 0, 5, 6);
        x.due("sheet(0, 2, 3)", 1);
        x.due("sheet(2, 0, 3)", 1);
        has(x, 1, 0, 5, 6);
    }

    private void sheetAllZero() {
        e.promise(22, "all 0,");
        Run x = teller();
        for (int sort = 0; sort < 3; sort++) {
            x.sheet(0, sort, 1, 2, 3);
            has(x, 0, sort, 1, 2, 3);
            x.due("sheet(0, " + sort + ", 3)", 1);
            has(x, 0, sort, 0, 0, 0);
            x.sheet(0, sort, 1, 2, 3);
            x.due("sheet(0, " + sort + ", 1)", 1);
            x.due("sheet(0, " + sort + ", 4)", 1);
            has(x, 0, sort, 0, 0, 0, 0);
        }
        x.call("sheet(0, 1, 40)");
        x.call("cell(0, 39, 5)");
        x.due("sheet(0, 1, 40)", 1);
        x.due("copy(0, 39, 3, 0, 1)", UNLIKE);
        x.call("sheet(3, 1, 1)");
        x.due("copy(0, 39, 3, 0, 1)", 1);
        x.due("tells(3, 0, 10)", 1);
    }

    private void sheetMissing() {
        e.promise(22, "or missing (sort -1: n does not matter): 1.");
        Run x = e.run();
        String[] sizes = {"0", "40", "41", "-1", "MIN", "MAX"};
        for (String n : sizes) {
            x.due("sheet(2, 0, 1)", 1);
            x.due("cell(2, 0, 1)", 1);
            x.due("sheet(2, -1, " + n + ")", 1);
            x.due("cell(2, 0, 1)", NOTHING);
            x.due("sheet(2, -1, " + n + ")", 1);
        }
        // a row of none is not missing
        x.due("sheet(2, 0, 0)", 1);
        x.due("cell(2, 0, 1)", OUTSIDE);
    }

    private void sheetBad() {
        e.promise(22, "BAD: no such SHEET, sort; n above 40;");
        refusedEach(BAD, "sheet(-1, 0, 1)", "sheet(4, 0, 1)", "sheet(MIN, 0, 1)", "sheet(MAX, 0, 1)", "sheet(-1, -1, 0)",
            "sheet(4, -1, 0)");
        refusedEach(BAD, "sheet(0, -2, 1)", "sheet(0, 3, 1)", "sheet(0, MIN, 1)", "sheet(0, MAX, 1)");
        for (int sort = 0; sort < 3; sort++) {
            refusedEach(BAD, "sheet(1, " + sort + ", 41)", "sheet(3, " + sort + ", 41)", "sheet(1, " + sort + ", MAX)");
        }
        // named ahead of -14
        refusedEach(BAD, "sheet(4, 0, -1)", "sheet(-1, 0, -1)", "sheet(0, 3, -1)", "sheet(0, -2, -1)");
    }

    private void sheetBelowZero() {
        e.promise(22, "-14.");
        for (int sort = 0; sort < 3; sort++) {
            refusedEach(BELOW_ZERO, "sheet(1, " + sort + ", -1)", "sheet(3, " + sort + ", -1)",
                "sheet(1, " + sort + ", MIN)");
            e.run().due("sheet(0, " + sort + ", 0)", 1);
        }
    }

    private void cell() {
        e.promise(23, "Item i of a SHEET becomes v");
        Run x = teller();
        for (int sort = 0; sort < 3; sort++) {
            x.due("sheet(1, " + sort + ", 3)", 1);
            x.due("cell(1, 0, 7)", 1);
            x.due("cell(1, 2, 9)", 1);
            has(x, 1, sort, 7, 0, 9);
            x.due("cell(1, 1, 8)", 1);
            x.due("cell(1, 0, 0)", 1);
            has(x, 1, sort, 0, 8, 9);
        }
    }

    private void cellLowestBits() {
        e.promise(23, "(of bytes, shorts its lowest 8, 16 bits): 1.");
        Run x = teller();
        x.sheet(0, 0, 256 + 1, -256 + 2, 0x7fffff03, 0x80000004, 255, 128, 127);
        has(x, 0, 0, 1, 2, 3, 4, -1, -1, -1);
        x.sheet(0, 1, 65536 + 1, -65536 + 2, 0x7fff0003, 0x80000004, 65535, 256, 32768, 128);
        has(x, 0, 1, 1, 2, 3, 4, -1, -1, -1, -1);
        x.sheet(0, 2, 1, 256 + 2, 65536 + 3, 0x80000004, -1, 5);
        has(x, 0, 2, 1, -1, -1, -1, -1, 5);
        // which numbers they are: 127, 128 and 200 can be told by a COW of the evening
        Run y = e.run();
        y.call("bargain(4, 0, 0)");
        y.rule("1", "1", "54-(hour=13)+36*(hour=14)"); // 64 and 128, 126, 200
        y.sheet(0, 0, 64, 64, 64, 64, 64, 64, 64, 64, 64, 64, 64, 64, 128);
        y.due("tells(0, 0, 0)", 12); // the byte of these 8 bits is -128
        y.sheet(0, 1, 64, 64, 64, 64, 64, 64, 64, 64, 64, 64, 64, 64, 128, 126, 200, 65536 + 128);
        y.due("tells(0, 0, 0)", NONE);
        y.sheet(0, 2, 64, 64, 64, 64, 64, 64, 64, 64, 64, 64, 64, 64, 128, 126, 200, 65536 + 128);
        y.due("tells(0, 0, 0)", 15);
    }

    private void cellRefused() {
        e.promise(23, "BAD: no such SHEET;");
        refusedEach(BAD, "cell(-1, 0, 5)", "cell(4, 0, 5)", "cell(MIN, 0, 5)", "cell(MAX, 0, 5)", "cell(4, -1, 5)");
        e.promise(23, "-11;");
        // named ahead of -12
        refusedEach(NOTHING, "cell(3, 0, 5)", "cell(3, -1, 5)", "cell(3, 40, 5)", "cell(3, MIN, 5)");
        e.promise(23, "-12.");
        Run x = e.run(Busy::market);
        x.due("cell(0, 2, 5)", 1);
        x.due("cell(1, 5, 5)", 1);
        x.due("cell(2, 24, 5)", 1);
        refusedEach(OUTSIDE, "cell(0, 3, 5)", "cell(1, 6, 5)", "cell(2, 25, 5)");
        for (int sheet = 0; sheet < 3; sheet++) {
            refusedEach(OUTSIDE, "cell(" + sheet + ", -1, 5)", "cell(" + sheet + ", 40, 5)",
                "cell(" + sheet + ", MIN, 5)", "cell(" + sheet + ", MAX, 5)");
        }
    }

    private void copy() {
        e.promise(24, "n numbers of a SHEET, from item i on, come to another one's item j on");
        Run x = teller();
        for (int sort = 0; sort < 3; sort++) {
            x.sheet(0, sort, 1, 2, 3, 4);
            x.sheet(1, sort, 5, 6, 7);
            x.due("copy(0, 1, 1, 0, 2)", 2);
            has(x, 1, sort, 2, 3, 7);
            has(x, 0, sort, 1, 2, 3, 4);
            x.due("copy(0, 3, 1, 2, 1)", 1);
            has(x, 1, sort, 2, 3, 4);
            x.due("copy(0, 0, 1, 0, 3)", 3);
            has(x, 1, sort, 1, 2, 3);
            x.due("copy(0, 0, 1, 0, 0)", 0);
            x.due("copy(0, 4, 1, 3, 0)", 0);
            has(x, 1, sort, 1, 2, 3);
        }
    }

    private void copyAsTheyWere() {
        e.promise(24, "(as they were): n.");
        Run x = teller();
        for (int sort = 0; sort < 3; sort++) {
            x.sheet(0, sort, 1, 2, 3, 4, 5);
            x.due("copy(0, 0, 0, 1, 4)", 4);
            has(x, 0, sort, 1, 1, 2, 3, 4);
            x.due("copy(0, 2, 0, 0, 3)", 3);
            has(x, 0, sort, 2, 3, 4, 3, 4);
            x.due("copy(0, 0, 0, 0, 5)", 5);
            has(x, 0, sort, 2, 3, 4, 3, 4);
        }
    }

    private void copyBadAndMissing() {
        e.promise(24, "BAD: no such SHEET;");
        refusedEach(BAD, "copy(-1, 0, 0, 0, 1)", "copy(4, 0, 0, 0, 1)", "copy(0, 0, -1, 0, 1)", "copy(0, 0, 4, 0, 1)",
            "copy(MIN, 0, MAX, 0, 0)");
        // named ahead of -11 and all behind it
        refusedEach(BAD, "copy(3, 0, 4, 0, 1)", "copy(-1, 0, 3, 0, 1)", "copy(0, -1, 4, 0, -1)");
        e.promise(24, "-11;");
        refusedEach(NOTHING, "copy(0, 0, 3, 0, 1)", "copy(3, 0, 0, 0, 1)", "copy(3, 0, 3, 0, 0)", "copy(1, 0, 3, 0, 0)");
        // named ahead of -12
        refusedEach(NOTHING, "copy(0, -1, 3, 0, 1)", "copy(3, 0, 0, 9, 1)", "copy(3, 0, 2, 0, -1)");
    }

    private void copyUnlike() {
        e.promise(24, "-13: they are of unlike sorts;");
        for (int sheet = 0; sheet < 3; sheet++) {
            for (int other = 0; other < 3; other++) {
                if (sheet == other) {
                    e.unchanged(Busy::market, "copy(" + sheet + ", 0, " + other + ", 0, 3)", 3);
                } else {
                    refusedEach(UNLIKE, "copy(" + sheet + ", 0, " + other + ", 0, 1)",
                        "copy(" + sheet + ", 0, " + other + ", 0, 0)");
                    // named ahead of -12
                    refusedEach(UNLIKE, "copy(" + sheet + ", -1, " + other + ", 0, 1)",
                        "copy(" + sheet + ", 0, " + other + ", 0, -1)");
                }
            }
        }
    }

    private void copyOutside() {
        e.promise(24, "-12 (also with n below 0).");
        Run x = e.run(HostEdges::twoRows);
        x.due("copy(0, 0, 1, 0, 3)", 3);
        x.due("copy(0, 3, 1, 2, 0)", 0);
        x.due("copy(1, 5, 0, 3, 0)", 0);
        x.due("copy(0, 2, 1, 4, 1)", 1);
        int[][] outside = {{-1, 0, 1}, {-1, 0, 0}, {0, -1, 1}, {0, -1, 0}, {3, 0, 1}, {4, 0, 0}, {0, 5, 1}, {0, 6, 0},
            {0, 0, 4}, {1, 0, 3},
            {0, 3, 3}, {0, 4, 2}, {0, 0, -1}, {3, 5, -1}, {1, 1, Integer.MIN_VALUE}, {1, 0, Integer.MAX_VALUE},
            {Integer.MAX_VALUE, 0, 1}, {0, Integer.MAX_VALUE, 1}, {Integer.MAX_VALUE, 0, Integer.MAX_VALUE},
            {0, Integer.MAX_VALUE, Integer.MAX_VALUE}, {Integer.MIN_VALUE, 0, 1}, {0, Integer.MIN_VALUE, Integer.MIN_VALUE}};
        for (int[] o : outside) {
            e.refusedIn(HostEdges::twoRows, "copy(0, " + o[0] + ", 1, " + o[1] + ", " + o[2] + ")", OUTSIDE);
        }
        refusedEach(OUTSIDE, "copy(0, 0, 0, 1, 3)", "copy(0, 1, 0, 0, 3)", "copy(0, 0, 0, 0, 4)", "copy(0, 0, 0, 0, -1)");
    }

    /** The busy market with a row of 3 bytes and one of 5. */
    private static void twoRows(Run x) {
        Busy.market(x);
        x.sheet(1, 0, 5, 6, 7, 8, 9);
    }

    private void bargains() {
        e.promise(25,
            "BARGAINS by a SHEET that is taken for one of a sort: from one on, three by three (as of bargain()), n of them (0 .. 6):");
        for (int sort = 0; sort < 3; sort++) {
            Run x = e.run();
            x.sheet(0, sort, 9, 5, 9, 1, 0, 0, 0, 4, 3, 1);
            x.due("bargains(0, " + sort + ", 1, 3)", 3);
            x.dueEach("told(#, 5)", 5, 0, 4);
            x.dueEach("told(#, 2)", 9, 0, 3);
            x.dueEach("told(#, 3)", 1, 0, 1);
            x.dueEach("told(#, 4)", 0, 0, 0);
            x.due("bargains(0, " + sort + ", 7, 0)", 0);
            x.due("bargains(0, " + sort + ", 7, 1)", 1);
            x.due("told(3, 5)", 4);
            x.due("count(0)", 4);
        }
        Run all = e.run();
        all.call("sheet(1, 2, 40)");
        all.due("bargains(1, 2, 22, 6)", 6); // the last item is the row's last
        all.due("count(0)", 6);
        Run none = e.run();
        none.call("sheet(1, 2, 0)");
        none.due("bargains(1, 2, 0, 0)", 0);
        none.due("count(0)", 0);
    }

    private void bargainsLeftOut() {
        e.promise(25, "how many came (others are left out).");
        Run x = e.run();
        x.sheet(0, 1, 6, 0, 0, 0, 9, 1, 0, 10, 0, 1, 1, 2, -1, 1, 1, 5, 5, 1);
        x.due("bargains(0, 1, 0, 6)", 2);
        x.dueEach("told(#, 2)", 9, 5, BAD);
        x.due("bargains(0, 1, 0, 1)", 0);
        x.due("bargains(0, 1, 12, 1)", 0);
        x.due("count(0)", 2);
        // those for which there is no room, too
        x.due("bargains(0, 1, 0, 6)", 2);
        x.due("bargains(0, 1, 3, 1)", 1);
        x.due("bargains(0, 1, 0, 6)", 1);
        x.due("bargains(0, 1, 0, 6)", 0);
        x.due("count(0)", 6);
        e.unchanged(Busy::fullOfBargains, "bargains(1, 1, 0, 2)", 0);
    }

    private void bargainsBad() {
        e.promise(25, "BAD: no such SHEET, sort, n;");
        refusedEach(BAD, "bargains(-1, 0, 0, 1)", "bargains(4, 0, 0, 1)", "bargains(MIN, 0, 0, 0)",
            "bargains(MAX, 0, 0, 0)");
        refusedEach(BAD, "bargains(0, -1, 0, 1)", "bargains(0, 3, 0, 1)", "bargains(0, MIN, 0, 1)",
            "bargains(0, MAX, 0, 1)");
        refusedEach(BAD, "bargains(0, 0, 0, -1)", "bargains(0, 0, 0, 7)", "bargains(0, 0, 0, MIN)",
            "bargains(0, 0, 0, MAX)");
        // named ahead of -13, -11, -12
        refusedEach(BAD, "bargains(0, 1, 0, 7)", "bargains(0, 2, 0, -1)", "bargains(3, 0, 0, 7)",
            "bargains(3, -1, 0, 1)", "bargains(3, 3, 0, 1)",
            "bargains(0, 0, -1, 7)", "bargains(4, 0, -1, 1)");
    }

    private void bargainsUnlikeAndMissing() {
        e.promise(25, "-13;");
        refusedEach(UNLIKE, "bargains(0, 1, 0, 1)", "bargains(0, 2, 0, 1)", "bargains(1, 0, 0, 1)",
            "bargains(1, 2, 0, 1)", "bargains(2, 0, 0, 1)", "bargains(2, 1, 0, 1)");
        // named ahead of -12, and where none is to come, too
        refusedEach(UNLIKE, "bargains(0, 1, -1, 1)", "bargains(1, 0, 5, 1)", "bargains(2, 1, 99, 6)",
            "bargains(0, 1, 0, 0)");
        e.promise(25, "-11;");
        refusedEach(NOTHING, "bargains(3, 0, 0, 1)", "bargains(3, 1, 0, 1)", "bargains(3, 2, 0, 6)", "bargains(3, 0, 0, 0)");
        // named ahead of -12
        refusedEach(NOTHING, "bargains(3, 0, -1, 1)", "bargains(3, 1, 99, 6)");
    }

    private void bargainsOutside() {
        e.promise(25, "-12: what stood ahead came.");
        refusedEach(OUTSIDE, "bargains(0, 0, -1, 1)", "bargains(0, 0, 1, 1)", "bargains(0, 0, 3, 1)",
            "bargains(1, 1, 4, 2)");
        refusedEach(OUTSIDE, "bargains(0, 0, MIN, 6)", "bargains(0, 0, MAX, 6)", "bargains(1, 1, -3, 6)",
            "bargains(2, 2, 23, 1)");
        Run x = e.run();
        x.sheet(0, 2, 1, 1, 1, 6, 0, 0, 2, 2, 0, 3, 3);
        x.due("bargains(0, 2, 0, 4)", OUTSIDE);
        x.due("count(0)", 2);
        x.dueEach("told(#, 5)", 1, 2, BAD);
        x.due("bargains(0, 2, 6, 6)", OUTSIDE);
        x.due("count(0)", 3);
        x.due("bargains(0, 2, 6, 1)", 1);
        x.due("count(0)", 4);
        // none stood ahead
        x.due("bargains(0, 2, 9, 1)", OUTSIDE);
        x.due("bargains(0, 2, 9, 0)", 0);
        x.due("bargains(0, 2, 11, 1)", OUTSIDE);
        x.due("count(0)", 4);
        // outside, also where no more has room
        e.refusedIn(Busy::fullOfBargains, "bargains(1, 1, 3, 2)", OUTSIDE);
    }

    private void taken() {
        e.promise(26,
            "A BARGAIN taken for one of KIND k (0 .. 5), or one under that one (also by others between): its NUMBER.");
        Run x = e.run();
        int[] numbers = {0, 9, 2, 7, 4, 5};
        for (int kind = 0; kind < 6; kind++) {
            x.call("bargain(" + kind + ", " + numbers[kind] + ", 0)");
        }
        x.dueEach("taken(#, 0)", 0, 9, 2, 7, 4, 5);
        x.due("taken(1, 1)", 9);
        x.due("taken(3, 1)", 7);
        x.due("taken(2, 2)", 2);
        x.due("taken(4, 2)", 4);
        x.due("taken(3, 3)", 7);
        x.due("taken(4, 4)", 4);
        x.due("taken(5, 5)", 5);
        x.call("set(2, 5, 0)");
        x.call("set(4, 5, 1)");
        x.due("taken(5, 0)", 0);
        x.due("taken(6, 0)", NOTHING);
    }

    private void takenRefused() {
        e.promise(26, "BAD: k;");
        refusedEach(BAD, "taken(0, -1)", "taken(0, 6)", "taken(0, MIN)", "taken(0, MAX)");
        // named ahead of -11
        refusedEach(BAD, "taken(5, -1)", "taken(-1, 6)", "taken(MAX, MAX)");
        e.promise(26, "-11: no such BARGAIN;");
        for (int k = 0; k < 6; k++) {
            refusedEach(NOTHING, "taken(-1, " + k + ")", "taken(5, " + k + ")", "taken(MIN, " + k + ")",
                "taken(MAX, " + k + ")");
            e.refusedIn(Busy::fullOfBargains, "taken(6, " + k + ")", NOTHING);
            e.run().due("taken(0, " + k + ")", NOTHING);
        }
        e.promise(26, "-13.");
        Run x = e.run();
        x.dueEach("bargain(#, 3, 0)", 0, 1, 2, 3, 4, 5);
        String[] above = {"0", "01", "02", "013", "024", "05"};
        for (int b = 0; b < 6; b++) {
            for (int k = 0; k < 6; k++) {
                x.due("taken(" + b + ", " + k + ")", above[b].indexOf('0' + k) < 0 ? UNLIKE : 3);
            }
        }
        refusedEach(UNLIKE, "taken(0, 1)", "taken(0, 5)", "taken(1, 1)", "taken(2, 2)", "taken(3, 4)", "taken(4, 3)");
    }
}
