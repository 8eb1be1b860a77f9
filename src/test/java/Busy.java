import java.util.ArrayList;
import java.util.List;

/** Markets in which nothing is as at first, so that a refused call that changes something is seen; and the look at all. */
final class Busy {
    private static final int BARGAINS = 6, SHEETS = 4, MOST_ITEMS = 40;

    private Busy() {
    }

    /** 5 BARGAINS (0 and 2 SHAKEN on), 3 TEXTS, a TAPE that waits for its last sign, an IMAGE, 3 SHEETS. */
    static void market(Run x) {
        x.rain(0, "451009");
        x.rain(1, "2");
        x.call("set(1, 112, 7)");
        x.call("set(1, 123, 6)");
        x.call("set(0, 0, 6)");
        x.call("bargain(0, 8, 1)");
        x.call("bargain(4, 5, 0)");
        x.call("bargain(3, 2, 1)");
        x.call("bargain(5, 9, 0)");
        x.call("set(4, 2, 1)");
        x.text("needs 1;takes 1;value number;");
        x.text("needs 3;takes 2;value 7;");
        x.call("force(2)");
        x.call("image()");
        x.call("set(1, 7, 3)");
        x.call("set(0, 0, 2)");
        x.call("set(2, 1, 4)");
        x.call("set(3, 0, 0)");
        x.call("set(4, 0, 1)");
        x.call("force(1)");
        x.call("bargain(1, 7, 1)");
        x.sheet(0, 0, 1, 3, 4);
        x.sheet(1, 1, 0, 7, 1, 5, 2, 0);
        x.call("sheet(2, 2, 25)");
        x.call("cell(2, 0, 3)");
        x.call("cell(2, 24, 8)");
        x.feed("needs 4;takes 3;value 5");
    }

    /** The busy market, but no BARGAIN more has room. */
    static void fullOfBargains(Run x) {
        market(x);
        x.call("bargain(2, 1, 1)");
    }

    /** The busy market, but no TEXT more has room. */
    static void fullOfTexts(Run x) {
        market(x);
        x.call("text()"); // a FAULT
        x.text("needs 4;takes 3;value 5;");
        x.text("needs 5;takes 4;value 6;");
        x.text("needs 6;takes 5;value 8;");
        x.feed("needs");
    }

    /** The busy market, but no byte more has room on THE TAPE. */
    static void fullTape(Run x) {
        market(x);
        x.feed(" ".repeat(160 - 23));
    }

    /** The busy market, but there are 5 that aren't SHAKEN on. */
    static void fiveLeft(Run x) {
        market(x);
        x.call("bargain(2, 1, 1)");
        x.call("set(4, 2, 0)");
    }

    /** Asks for all that can be told of an object; what comes behind that may be otherwise. */
    static List<String> look(Run x) {
        List<String> seen = new ArrayList<>();
        for (int i = 0; i < 48; i++) {
            see(x, "told(" + (i / 24 * 100 + i % 24) + ", 1)", seen);
        }
        lookAtBargains(x, seen);
        for (int sheet = 0; sheet < SHEETS; sheet++) {
            lookAtSize(x, sheet, seen);
        }
        x.call("force(1)");
        for (int sheet = 0; sheet + 1 < SHEETS; sheet++) {
            lookAtItems(x, sheet, seen);
        }
        lookAtTexts(x, seen);
        see(x, "back()", seen);
        for (int i = 0; i < 8; i++) {
            see(x, "sky(" + i / 4 + ", " + i % 4 + ")", seen);
        }
        lookAtBargains(x, seen);
        return seen;
    }

    private static long see(Run x, String call, List<String> seen) {
        long answer = x.call(call);
        seen.add(call + " " + answer);
        return answer;
    }

    private static void lookAtBargains(Run x, List<String> seen) {
        for (int what = 0; what < 6; what++) {
            see(x, "count(" + what + ")", seen);
        }
        see(x, "told(0, 0)", seen);
        for (int b = 0; b < BARGAINS; b++) {
            boolean stands = see(x, "told(" + b + ", 2)", seen) >= 0;
            for (int what = 3; what <= 5 && stands; what++) {
                see(x, "told(" + b + ", " + what + ")", seen);
            }
        }
    }

    private static void lookAtSize(Run x, int sheet, List<String> seen) {
        for (int sort = 0; sort < 3; sort++) {
            see(x, "bargains(" + sheet + ", " + sort + ", 0, 0)", seen);
        }
        seen.add("size of " + sheet + " " + sizeOf(x, sheet));
    }

    /** The last place from which none can be copied. */
    private static int sizeOf(Run x, int sheet) {
        int least = -1;
        int most = MOST_ITEMS;
        while (least < most) {
            int half = (least + most + 1) / 2;
            if (x.call("copy(" + sheet + ", " + half + ", " + sheet + ", " + half + ", 0)") == 0) {
                least = half;
            } else {
                most = half - 1;
            }
        }
        return least;
    }

    /** Which NUMBER would be worth as much as an item, by TEXT 1; the last SHEET is used up for it. */
    private static void lookAtItems(Run x, int sheet, List<String> seen) {
        int size = sizeOf(x, sheet);
        int other = SHEETS - 1;
        for (int sort = 0; sort < 3; sort++) {
            if (x.call("bargains(" + sheet + ", " + sort + ", 0, 0)") == 0) {
                x.call("sheet(" + other + ", " + sort + ", 1)");
            }
        }
        for (int i = 0; i < size; i++) {
            x.call("copy(" + sheet + ", " + i + ", " + other + ", 0, 1)");
            seen.add("item " + i + " of " + sheet + " " + x.call("tells(" + other + ", 0, 2)"));
        }
    }

    private static void lookAtTexts(Run x, List<String> seen) {
        see(x, "feed(59)", seen);
        see(x, "text()", seen);
        see(x, "count(4)", seen);
        long texts = see(x, "count(3)", seen);
        for (int t = 0; t < texts; t++) {
            see(x, "force(" + t + ")", seen);
            see(x, "asks(0, 0, 0)", seen);
            see(x, "asks(0, 0, 1)", seen);
            see(x, "asks(0, 0, 3)", seen);
        }
    }
}
