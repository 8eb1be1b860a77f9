/** Promises 1 to 5: a new object, set, bargain, told, asks. */
public final class RainTest {
    private static final Due due = new Due();
    private static final int MAX = Integer.MAX_VALUE, MIN = Integer.MIN_VALUE;

    public static void main(String[] args) {
        newObject();
        set();
        setRefused();
        bargain();
        told();
        needsByKind();
        takesByKind();
        worthByKind();
        boundsOfWhatIsTold();
        holdsAndDealt();
        asksRefused();
        due.end();
    }

    /** Promise 1. */
    private static void newObject() {
        OpenWhileItRains x = new OpenWhileItRains();
        int[] counts = {0, 0, 0, 1, 0, 0};
        for (int what = 0; what < counts.length; what++) {
            due.is("new: count(" + what + ")", x.count(what), counts[what]);
        }
        for (int i = 0; i < 48; i++) {
            due.is("new: rain", x.told(i / 24 * 100 + i % 24, 1), 0);
        }
        due.is("new: west", x.told(0, 0), 0);
        due.is("new: no image", x.back(), -3);
        for (int sheet = 0; sheet < 4; sheet++) {
            due.is("new: sheet " + sheet + " is missing", x.cell(sheet, 0, 0), -11);
        }
        due.is("new: NONE", OpenWhileItRains.NONE, -1);
        due.is("new: BAD", OpenWhileItRains.BAD, -2);
        due.is("new: STATE", OpenWhileItRains.STATE, -3);
        due.is("new: FULL", OpenWhileItRains.FULL, -4);
        due.is("new: NO", OpenWhileItRains.NO, -4611686018427387904L);
    }

    /** Promise 2: it answers what was. */
    private static void set() {
        OpenWhileItRains x = new OpenWhileItRains();
        x.bargain(3, 4, 1);
        x.bargain(0, 5, 0);
        due.is("west", x.set(0, MIN, 9), 0);
        due.is("west again", x.set(0, MAX, 3), 9);
        due.is("west told", x.told(-7, 0), 3);
        due.is("rain 0:0", x.set(1, 0, 9), 0);
        due.is("rain 0:23", x.set(1, 23, 8), 0);
        due.is("rain 1:0", x.set(1, 100, 7), 0);
        due.is("rain 1:23", x.set(1, 123, 6), 0);
        due.is("rain 1:23 again", x.set(1, 123, 0), 6);
        due.is("rain 0:23 stays", x.told(23, 1), 8);
        due.is("rain 1:0 stays", x.told(100, 1), 7);
        due.is("number", x.set(2, 0, 0), 4);
        due.is("number of the other", x.set(2, 1, 9), 5);
        due.is("street", x.set(3, 0, 0), 1);
        due.is("street back", x.set(3, 0, 1), 0);
        due.is("shaken", x.set(4, 1, 1), 0);
        due.is("shaken again", x.set(4, 1, 0), 1);
    }

    private static void setRefused() {
        OpenWhileItRains x = new OpenWhileItRains();
        x.bargain(0, 5, 1);
        int[][] bad = {{-1, 0, 0}, {5, 0, 0}, {MAX, 0, 0}, {MIN, 0, 0}, {0, 0, -1}, {0, 0, 10}, {1, -1, 0}, {1, 24, 0},
            {1, 99, 0}, {1, 124, 0}, {1, 199, 0}, {1, 200, 0}, {1, MIN, 0}, {1, MAX, 0}, {1, -100, 0}, {1, 0, -1},
            {1, 0, 10}, {2, 1, 0}, {2, -1, 0}, {2, 0, 10}, {2, 0, -1}, {3, 0, 2}, {3, 0, -1}, {3, 1, 0},
            {4, 0, 2}, {4, 0, -1}, {4, 1, 1}, {4, MAX, 1}};
        for (int[] b : bad) {
            due.is("set(" + b[0] + ", " + b[1] + ", " + b[2] + ")", x.set(b[0], b[1], b[2]), -2);
        }
        int[] stays = {0, 0, 5, 1, 0, 0};
        for (int what = 0; what < stays.length; what++) {
            due.is("refused: told " + what, x.told(0, what), stays[what]);
        }
    }

    /** Promise 3. */
    private static void bargain() {
        OpenWhileItRains x = new OpenWhileItRains();
        int[][] bad = {{-1, 0, 0}, {6, 0, 0}, {0, -1, 0}, {0, 10, 0}, {0, 0, -1}, {0, 0, 2}, {MAX, MAX, MAX}};
        for (int[] b : bad) {
            due.is("bargain", x.bargain(b[0], b[1], b[2]), -2);
        }
        for (int i = 0; i < 6; i++) {
            due.is("bargain " + i, x.bargain(i, 9 - i, i % 2), i);
        }
        due.is("the seventh", x.bargain(0, 0, 0), -4);
        due.is("a bad seventh", x.bargain(6, 0, 0), -2);
        due.is("how many", x.count(0), 6);
        for (int i = 0; i < 6; i++) {
            due.is("kind of " + i, x.told(i, 5), i);
            due.is("number of " + i, x.told(i, 2), 9 - i);
            due.is("street of " + i, x.told(i, 3), i % 2);
            due.is("shaken of " + i, x.told(i, 4), 0);
        }
    }

    /** Promise 4. */
    private static void told() {
        OpenWhileItRains x = new OpenWhileItRains();
        for (int what = 2; what <= 5; what++) {
            due.is("told of none", x.told(0, what), -2);
        }
        x.bargain(5, 3, 1);
        x.set(0, 0, 4);
        x.set(1, 117, 2);
        due.is("west, of does not matter", x.told(MIN, 0), 4);
        due.is("rain", x.told(117, 1), 2);
        due.is("kind", x.told(0, 5), 5);
        int[][] bad = {{24, 1}, {99, 1}, {124, 1}, {-1, 1}, {200, 1}, {1, 2}, {-1, 3}, {6, 4}, {MAX, 5}, {0, 6}, {0, -1}};
        for (int[] b : bad) {
            due.is("told(" + b[0] + ", " + b[1] + ")", x.told(b[0], b[1]), -2);
        }
    }

    private static OpenWhileItRains allKinds(int number) {
        OpenWhileItRains x = new OpenWhileItRains();
        for (int kind = 0; kind < 6; kind++) {
            x.bargain(kind, number, 0);
        }
        return x;
    }

    private static void asked(OpenWhileItRains x, int what, int hour, int... want) {
        for (int b = 0; b < want.length; b++) {
            due.is("asks(" + b + ", " + hour + ", " + what + ")", x.asks(b, hour, what), want[b]);
        }
    }

    /** Promise 5. */
    private static void needsByKind() {
        OpenWhileItRains x = allKinds(7);
        Due.rule(x, "needs hour; takes 1; value 1;");
        asked(x, 0, 5, 5, 2, 7, 2, 9, 1);
        asked(x, 0, 1, 1, 1, 3, 1, 5, 1);
        asked(x, 0, 4, 4, 2, 6, 2, 8, 1);
        asked(x, 0, 23, 9, 4, 9, 4, 9, 1);
        x.set(2, 4, 2);
        due.is("2 by 3 is cut", x.asks(4, 4, 0), 6);
    }

    private static void takesByKind() {
        OpenWhileItRains x = allKinds(5);
        Due.rule(x, "needs 1; takes hour; value 1;");
        asked(x, 1, 4, 4, 3, 8, 5, 8, 1);
        asked(x, 1, 2, 2, 1, 4, 3, 4, 1);
        asked(x, 1, 13, 13, 12, 24, 14, 24, 1);
        due.is("an umbrella's hour", x.asks(5, 0, 1), 1);
        due.is("no hours are one", x.asks(0, 0, 1), 1);
        due.is("1 less than none is one", x.asks(1, 0, 1), 1);
        x.set(2, 3, 9);
        due.is("9 modulo 3", x.asks(3, 4, 1), 3);
        Due.rule(x, "needs 1; takes 30; value 1;");
        x.set(2, 3, 0);
        asked(x, 1, 0, 24, 23, 24, 23, 24, 1);
        Due.rule(x, "needs 30; takes 0-1; value 1;");
        asked(x, 0, 0, 9, 4, 9, 4, 9, 1);
        // the bounds are put on behind all: 1 less than none, and 2 more, is 1
        x.set(2, 3, 2);
        asked(x, 1, 0, 1, 1, 1, 1, 1, 1);
        Due.rule(x, "needs 0-1; takes 1; value 1;");
        x.set(2, 4, 3);
        asked(x, 0, 0, 1, 1, 2, 1, 3, 1);
        asked(x, 1, 0, 1, 1, 2, 2, 2, 1);
    }

    private static void worthByKind() {
        OpenWhileItRains x = allKinds(8);
        Due.rule(x, "needs 1; takes 1; value 30;");
        asked(x, 3, 0, 30, 30, 40, 30, 40, 8);
        asked(x, 3, 2, 30, 30, 40, 26, 40, 8);
        asked(x, 3, 3, 30, 30, 40, 24, 40, 0);
        asked(x, 3, 11, 30, 30, 40, 8, 40, 0);
        asked(x, 3, 12, 30, 30, 40, 6, 80, 0);
        asked(x, 3, 23, 30, 30, 40, 0, 80, 0);
    }

    private static void boundsOfWhatIsTold() {
        OpenWhileItRains x = allKinds(0);
        Due.rule(x, "needs 100-hour*9999; takes 9999-hour*9999; value 9999*9999-hour*9999*9999*9;");
        due.is("needs above", x.asks(0, 0, 0), 9);
        due.is("takes above", x.asks(0, 0, 1), 24);
        due.is("value above", x.asks(0, 0, 3), 99);
        due.is("a cow's, by the bounded value", x.asks(4, 12, 3), 20);
        due.is("needs below", x.asks(0, 2, 0), 1);
        due.is("takes below", x.asks(0, 2, 1), 1);
        due.is("value below", x.asks(0, 1, 3), 0);
        // what comes by which name
        OpenWhileItRains y = Due.market("000000700000000000000000", "000000030000000000000000");
        y.bargain(0, 5, 1);
        y.bargain(0, 6, 0);
        y.bargain(0, 0, 0);
        y.set(4, 2, 1);
        y.set(0, 0, 8);
        String[] names = {"rain", "hour", "number", "done", "street", "west"};
        int[] first = {3, 7, 5, 1, 1, 8};
        int[] second = {0, 7, 6, 1, 0, 8};
        for (int i = 0; i < 5; i++) {
            Due.rule(y, "needs 1; takes 1; value " + names[i] + ";");
            due.is(names[i], y.asks(0, 7, 3), first[i]);
            due.is(names[i] + " of the other", y.asks(1, 7, 3), second[i]);
        }
        OpenWhileItRains z = new OpenWhileItRains();
        z.bargain(0, 0, 0);
        z.set(0, 0, 8);
        Due.rule(z, "needs west; takes west; value west;");
        due.is("west", z.asks(0, 7, 0) * 100 + z.asks(0, 7, 1) * 10 + z.asks(0, 7, 3), 888);
    }

    private static void holdsAndDealt() {
        //                          0         1         2
        OpenWhileItRains x = Due.market("021220000000000000000022", "000009900000000000000000");
        x.bargain(0, 0, 0);
        asked(x, 2, 0, 0);
        asked(x, 2, 1, 0);
        asked(x, 2, 3, 1);
        asked(x, 2, 4, 0);
        asked(x, 2, 22, 1);
        asked(x, 2, 23, 0);
        asked(x, 4, 0, 4);
        asked(x, 4, 3, 4);
        asked(x, 4, 4, 23);
        asked(x, 4, 22, 23);
        asked(x, 4, 23, -1);
        x.set(3, 0, 1);
        asked(x, 4, 0, 6);
        asked(x, 4, 6, -1);
        // needs and takes are told by the hour in which it is begun
        Due.rule(x, "needs 5+(hour=5)*4; takes 1+(hour=5); value 0;");
        asked(x, 2, 5, 1);
        x.set(1, 106, 8);
        asked(x, 2, 5, 0);
        asked(x, 4, 0, 6);
    }

    private static void asksRefused() {
        OpenWhileItRains x = new OpenWhileItRains();
        due.is("no bargain", x.asks(0, 0, 0), -2);
        x.bargain(0, 0, 0);
        int[][] bad = {{1, 0, 0}, {-1, 0, 0}, {MAX, 0, 0}, {0, -1, 0}, {0, 24, 0}, {0, MIN, 4}, {0, 0, -1}, {0, 0, 5}};
        for (int[] b : bad) {
            due.is("asks", x.asks(b[0], b[1], b[2]), -2);
        }
        // one that is SHAKEN on is asked as well
        x.set(4, 0, 1);
        due.is("shaken on, asked", x.asks(0, 3, 3), 17);
    }
}
