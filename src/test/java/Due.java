/** Counts the calls whose answer is not the one that is due, and makes what many tests begin with. */
final class Due {
    private int wrong;

    void is(String call, long got, long want) {
        if (got != want) {
            wrong++;
            System.out.println(call + " answered " + got + ", due is " + want);
        }
    }

    void end() {
        if (wrong != 0) {
            System.out.println(wrong + " answers are not as due");
            System.exit(1);
        }
    }

    /** A market with rain in both streets, a digit an hour. */
    static OpenWhileItRains market(String first, String second) {
        OpenWhileItRains x = new OpenWhileItRains();
        rain(x, 0, first);
        rain(x, 100, second);
        return x;
    }

    static void rain(OpenWhileItRains x, int street, String digits) {
        for (int h = 0; h < digits.length(); h++) {
            x.set(1, street + h, digits.charAt(h) - '0');
        }
    }

    static int text(OpenWhileItRains x, String tape) {
        for (int i = 0; i < tape.length(); i++) {
            x.feed(tape.charAt(i));
        }
        return x.text();
    }

    /** Makes a text the rule. */
    static void rule(OpenWhileItRains x, String tape) {
        x.force(text(x, tape));
    }

    /** A sheet of a sort with these numbers. */
    static void row(OpenWhileItRains x, int sheet, int sort, int... items) {
        x.sheet(sheet, sort, items.length);
        for (int i = 0; i < items.length; i++) {
            x.cell(sheet, i, items[i]);
        }
    }
}
