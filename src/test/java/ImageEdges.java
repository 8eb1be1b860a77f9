/** Promises 19 to 21; the terms on AN IMAGE. */
final class ImageEdges extends Part {
    ImageEdges(Edges e) {
        super(e);
    }

    @Override
    void all() {
        image();
        back();
        backState();
        whatItKeeps();
        bargainsThatGo();
        counts();
        countBad();
    }

    private void image() {
        e.promise(19, "AN IMAGE is kept: how many BARGAINS.");
        Run x = e.run();
        x.due("image()", 0);
        for (int b = 0; b < 6; b++) {
            x.call("bargain(0, 0, 0)");
            x.due("image()", b + 1);
        }
        // the last one is THE IMAGE
        x.call("set(2, 5, 9)");
        x.due("back()", 6);
        x.due("told(5, 2)", 0);
        // what becomes otherwise behind it, does not in it
        Run y = e.run();
        y.call("bargain(0, 1, 0)");
        y.due("image()", 1);
        y.call("set(2, 0, 2)");
        y.due("back()", 1);
        y.due("told(0, 2)", 1);
        y.call("set(2, 0, 3)");
        y.due("image()", 1);
        y.call("set(2, 0, 4)");
        y.due("back()", 1);
        y.due("told(0, 2)", 3);
    }

    private void back() {
        e.promise(20, "All that it keeps is as in THE IMAGE: how many BARGAINS.");
        Run x = e.run();
        x.due("image()", 0);
        x.due("back()", 0);
        x.call("bargain(0, 0, 0)");
        x.due("back()", 0);
        x.due("count(0)", 0);
        // it stays THE IMAGE
        x.call("bargain(0, 0, 0)");
        x.call("bargain(0, 0, 0)");
        x.due("back()", 0);
        x.due("told(0, 2)", BAD);
        Run full = e.run(Busy::fullOfBargains);
        full.due("image()", 6);
        full.due("back()", 6);
        full.due("count(0)", 6);
        full.due("told(5, 5)", 2);
        // right behind an image nothing becomes otherwise by it
        e.unchanged(ImageEdges::imaged, "back()", 5);
    }

    private static void imaged(Run x) {
        Busy.market(x);
        x.call("image()");
    }

    private void backState() {
        e.promise(20, "STATE: there is none.");
        e.run().due("back()", STATE);
        e.refusedIn(ImageEdges::withoutImage, "back()", STATE);
        Run x = e.run(ImageEdges::withoutImage);
        x.due("back()", STATE);
        x.due("image()", 2);
        x.due("back()", 2);
    }

    private static void withoutImage(Run x) {
        x.rain(0, "123");
        x.call("set(0, 0, 4)");
        x.call("bargain(0, 5, 1)");
        x.call("bargain(3, 4, 0)");
        x.call("set(4, 1, 1)");
        x.text("needs 1;takes 1;value number;");
        x.call("force(1)");
        x.sheet(0, 0, 1, 2, 3);
        x.feed("needs");
    }

    private void whatItKeeps() {
        e.terms("AN IMAGE keeps RAIN, WEST, NUMBERS, STREETS, what was SHAKEN on, THE RULE");
        Run x = e.run(Busy::market);
        x.call("image()");
        for (int i = 0; i < 48; i++) {
            x.call("set(1, " + (i / 24 * 100 + i % 24) + ", 8)");
        }
        x.call("set(0, 0, 9)");
        for (int b = 0; b < 5; b++) {
            x.call("set(2, " + b + ", " + (b + 1) + ")");
            x.call("set(3, " + b + ", " + b % 2 + ")");
            x.call("set(4, " + b + ", " + (b + 1) % 2 + ")");
        }
        x.call("force(0)");
        x.due("back()", 5);
        x.due("count(2)", 5 + 3);
        x.due("told(0, 1)", 4);
        x.due("told(23, 1)", 0);
        x.due("told(100, 1)", 2);
        x.due("told(123, 1)", 6);
        x.due("told(0, 0)", 2);
        x.dueEach("told(#, 2)", 8, 4, 2, 9, 7);
        x.dueEach("told(#, 3)", 0, 0, 1, 0, 1);
        x.dueEach("told(#, 4)", 1, 0, 1, 0, 0);
        x.dueEach("told(#, 5)", 0, 4, 3, 5, 1);
        x.due("count(5)", 1);
        // TEXTS, THE TAPE, SHEETS are none of it
        Run y = e.run();
        y.call("image()");
        y.text("needs 1;takes 1;value 1;");
        y.feed("abc");
        y.sheet(2, 0, 7);
        y.due("back()", 0);
        y.due("count(3)", 2);
        y.due("count(4)", 3);
        y.due("cell(2, 0, 1)", 1);
        y.due("force(1)", 0);
        // nor does an image empty them
        y.due("image()", 0);
        y.due("count(4)", 3);
        y.due("count(5)", 1);
    }

    private void bargainsThatGo() {
        e.terms("(BARGAINS that came since go).");
        Run x = e.run();
        x.call("bargain(1, 1, 1)");
        x.call("image()");
        for (int b = 1; b < 6; b++) {
            x.call("bargain(2, 2, 0)");
            x.call("set(4, " + b + ", 1)");
        }
        x.due("bargain(0, 0, 0)", FULL);
        x.due("back()", 1);
        x.due("count(0)", 1);
        x.due("count(1)", 0);
        x.due("told(0, 5)", 1);
        x.due("told(1, 5)", BAD);
        x.due("asks(1, 0, 0)", BAD);
        x.due("taken(1, 0)", NOTHING);
        x.due("best(2)", 0);
        // those that come then are new ones
        x.due("bargain(5, 9, 1)", 1);
        x.due("told(1, 2)", 9);
        x.due("told(1, 3)", 1);
        x.due("told(1, 4)", 0);
        x.due("told(1, 5)", 5);
    }

    private void counts() {
        e.promise(21,
            "How many: 0 BARGAINS, 1 SHAKEN on, 2 wet HOURS of both STREETS, together, 3 TEXTS, 4 bytes of THE TAPE, 5 THE RULE.");
        e.run().dueEach("count(#)", 0, 0, 0, 1, 0, 0);
        Run x = wet(6);
        for (int b = 0; b < 6; b++) {
            x.due("count(1)", b);
            x.call("set(4, " + b + ", 1)");
        }
        for (int t = 1; t <= 5; t++) {
            x.rule("1", "1", "1");
        }
        x.feed(" ".repeat(160));
        x.dueEach("count(#)", 6, 6, 48, 6, 160, 5);
        // an HOUR that is wet in both counts twice
        x.rain(0, "1" + DRY.substring(1));
        x.due("count(2)", 25);
        x.rain(1, "9" + DRY.substring(1));
        x.due("count(2)", 2);
    }

    private void countBad() {
        e.promise(21, "BAD.");
        refusedEach(BAD, "count(-1)", "count(6)", "count(MIN)", "count(MAX)");
    }
}
