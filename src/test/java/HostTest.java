/** Promises 22 to 26: sheet, cell, copy, bargains, taken. */
public final class HostTest {
    private static final Due due = new Due();
    private static final int MAX = Integer.MAX_VALUE, MIN = Integer.MIN_VALUE;

    public static void main(String[] args) {
        sheet();
        cell();
        copy();
        bytesBelowZero();
        copyRefused();
        bargains();
        bargainsRefused();
        bargainsWhenFull();
        taken();
        due.end();
    }

    /** Whether a SHEET has just these items (0 .. 99), told by the WORTH of the last BARGAIN by a text of them. */
    private static void holds(OpenWhileItRains x, int sheet, int... items) {
        due.is("its size", x.cell(sheet, items.length, 0), -12);
        due.is("its last item is there", x.copy(sheet, items.length, sheet, 0, 0), 0);
        StringBuilder value = new StringBuilder("needs 1;takes 1;value 0");
        for (int i = 0; i < items.length; i++) {
            value.append("+(hour=").append(i).append(")*").append(items[i]);
        }
        int b = x.count(0) - 1;
        x.force(Due.text(x, value.append(';').toString()));
        due.is("sheet " + sheet, x.tells(sheet, b, 0), -1);
    }

    private static OpenWhileItRains one() {
        OpenWhileItRains x = new OpenWhileItRains();
        x.bargain(0, 0, 0);
        return x;
    }

    /** Promise 22. */
    private static void sheet() {
        OpenWhileItRains x = one();
        due.is("sheet", x.sheet(0, 0, 3), 1);
        holds(x, 0, 0, 0, 0);
        x.cell(0, 1, 5);
        holds(x, 0, 0, 5, 0);
        due.is("anew", x.sheet(0, 0, 3), 1);
        holds(x, 0, 0, 0, 0);
        due.is("40", x.sheet(1, 2, 40), 1);
        due.is("its last", x.cell(1, 39, 1), 1);
        due.is("behind its last", x.cell(1, 40, 1), -12);
        due.is("41", x.sheet(1, 2, 41), -2);
        due.is("below 0", x.sheet(1, 2, -1), -14);
        due.is("far below 0", x.sheet(1, 0, MIN), -14);
        due.is("far above", x.sheet(1, 1, MAX), -2);
        due.is("refused, it stays", x.cell(1, 39, 1), 1);
        int[][] bad = {{-1, 0, 1}, {4, 0, 1}, {MAX, -1, 1}, {0, -2, 1}, {0, 3, 1}, {0, 3, -1}, {4, 0, -1}, {4, 0, 41}};
        for (int[] b : bad) {
            due.is("sheet(" + b[0] + ", " + b[1] + ", " + b[2] + ")", x.sheet(b[0], b[1], b[2]), -2);
        }
        due.is("missing", x.sheet(1, -1, -5), 1);
        due.is("it is", x.cell(1, 0, 1), -11);
        due.is("missing again", x.sheet(1, -1, 41), 1);
        due.is("of none", x.sheet(1, 0, 0), 1);
        due.is("it has none", x.cell(1, 0, 1), -12);
        due.is("the other stays", x.cell(0, 2, 1), 1);
    }

    /** Promise 23. */
    private static void cell() {
        OpenWhileItRains x = one();
        Due.row(x, 0, 0, 256 + 7, -256 + 8, 127, 0x12345609);
        x.cell(0, 2, 9);
        holds(x, 0, 7, 8, 9, 9);
        Due.row(x, 1, 1, 65536 + 7, -65536 + 8, 256, 0x12340009);
        x.cell(1, 2, 0x10000);
        holds(x, 1, 7, 8, 0, 9);
        Due.row(x, 2, 2, 65536);
        due.is("an int keeps all", x.tour(2, 0), -2);
        Due.row(x, 2, 1, 65536);
        due.is("a short keeps the lowest 16", x.tour(2, 1), 0);
        due.is("missing", x.cell(3, 0, 0), -11);
        due.is("missing ahead of outside", x.cell(3, -1, 0), -11);
        int[][] bad = {{-1, -2}, {4, -2}, {MIN, -2}};
        for (int[] b : bad) {
            due.is("no such sheet", x.cell(b[0], 0, 0), b[1]);
        }
        due.is("outside", x.cell(2, 1, 0), -12);
        due.is("below", x.cell(2, -1, 0), -12);
        due.is("far", x.cell(2, MAX, 0), -12);
        due.is("far below", x.cell(2, MIN, 0), -12);
    }

    /** Promise 24. */
    private static void copy() {
        OpenWhileItRains x = one();
        Due.row(x, 0, 2, 1, 2, 3, 4, 5);
        Due.row(x, 1, 2, 6, 7, 8);
        due.is("copy", x.copy(0, 1, 1, 0, 2), 2);
        holds(x, 1, 2, 3, 8);
        holds(x, 0, 1, 2, 3, 4, 5);
        due.is("onto itself, up", x.copy(0, 0, 0, 1, 4), 4);
        holds(x, 0, 1, 1, 2, 3, 4);
        due.is("onto itself, down", x.copy(0, 2, 0, 0, 3), 3);
        holds(x, 0, 2, 3, 4, 3, 4);
        due.is("none", x.copy(0, 5, 1, 3, 0), 0);
    }

    /** A byte of 200 is -56, so that WORTH 200 (of a cow) is another; a short of 200 is it. */
    private static void bytesBelowZero() {
        OpenWhileItRains y = one();
        y.bargain(4, 0, 0);
        Due.rule(y, "needs 1;takes 1;value 90;");
        Due.row(y, 0, 0, 100, 100, 100, 100, 100, 100, 100, 100, 100, 100, 100, 100, 200);
        due.is("a byte of 200 isn't WORTH 200", y.tells(0, 1, 0), 12);
        y.film(1, 1, 13);
        due.is("a short of 200 is", y.tells(1, 1, 0), -1);
    }

    private static void copyRefused() {
        OpenWhileItRains x = one();
        Due.row(x, 0, 2, 1, 2, 3);
        Due.row(x, 1, 2, 4, 5);
        Due.row(x, 2, 1, 4, 5);
        int[][] outside = {{-1, 0, 1}, {3, 0, 1}, {4, 0, 0}, {0, 0, 3}, {0, 0, 4}, {0, 0, -1}, {2, 0, 2}, {0, 1, 2},
            {0, 2, 1}, {0, 3, 0}, {0, -1, 1}, {0, 0, MAX}, {MAX, 0, 1}, {MAX, 0, MAX}, {0, MAX, MAX}, {MIN, 0, MIN}, {0, 0, MIN}};
        for (int[] o : outside) {
            due.is("copy(0, " + o[0] + ", 1, " + o[1] + ", " + o[2] + ")", x.copy(0, o[0], 1, o[1], o[2]), -12);
        }
        due.is("unlike", x.copy(0, 0, 2, 0, 1), -13);
        due.is("unlike ahead of outside", x.copy(0, 9, 2, 0, -1), -13);
        due.is("missing", x.copy(0, 0, 3, 0, 1), -11);
        due.is("missing, the first", x.copy(3, 0, 0, 0, -1), -11);
        due.is("missing, both", x.copy(3, 0, 3, 0, 0), -11);
        due.is("no such sheet ahead of missing", x.copy(3, 0, 4, 0, 1), -2);
        due.is("no such sheet", x.copy(-1, 0, 0, 0, 1), -2);
        due.is("no such other", x.copy(0, 0, -1, 0, 1), -2);
        holds(x, 1, 4, 5);
        holds(x, 0, 1, 2, 3);
    }

    /** Promise 25. */
    private static void bargains() {
        OpenWhileItRains x = new OpenWhileItRains();
        Due.row(x, 0, 1, 9, 5, 4, 1, 6, 0, 0, 0, 9, 1, 0, 2, 3);
        due.is("two", x.bargains(0, 1, 1, 2), 1);
        due.is("kind", x.told(0, 5), 5);
        due.is("number", x.told(0, 2), 4);
        due.is("street", x.told(0, 3), 1);
        due.is("shaken", x.told(0, 4), 0);
        due.is("none", x.bargains(0, 1, 1, 0), 0);
        due.is("none from outside", x.bargains(0, 1, 99, 0), 0);
        due.is("what stood ahead came", x.bargains(0, 1, 1, 6), -12);
        // 5 4 1 and 0 9 1 come, 6 0 0 and 0 2 3 are left out
        due.is("two more came", x.count(0), 3);
        due.is("left out, then outside", x.bargains(0, 1, 7, 3), -12);
        due.is("one more came", x.count(0), 4);
        due.is("the last two are there", x.bargains(0, 1, 10, 1), 0);
        due.is("the third is not", x.bargains(0, 1, 11, 1), -12);
        due.is("below", x.bargains(0, 1, -1, 1), -12);
        due.is("far", x.bargains(0, 1, MAX, 6), -12);
        due.is("far below", x.bargains(0, 1, MIN, 6), -12);
        due.is("no more came", x.count(0), 4);
    }

    private static void bargainsRefused() {
        OpenWhileItRains x = new OpenWhileItRains();
        Due.row(x, 0, 1, 0, 0, 0);
        int[][] bad = {{-1, 1, 1}, {4, 1, 1}, {0, -1, 1}, {0, 3, 1}, {0, 1, -1}, {0, 1, 7}, {0, 0, 7}, {1, 0, 7}, {1, -1, 0},
            {MAX, MAX, MAX}};
        for (int[] b : bad) {
            due.is("bargains(" + b[0] + ", " + b[1] + ", 0, " + b[2] + ")", x.bargains(b[0], b[1], 0, b[2]), -2);
        }
        due.is("another sort", x.bargains(0, 0, 0, 1), -13);
        due.is("another sort", x.bargains(0, 2, 99, 0), -13);
        for (int sort = 0; sort < 3; sort++) {
            due.is("missing", x.bargains(1, sort, 0, 0), -11);
        }
        due.is("none came", x.count(0), 0);
        due.is("of its sort", x.bargains(0, 1, 0, 1), 1);
    }

    private static void bargainsWhenFull() {
        OpenWhileItRains x = new OpenWhileItRains();
        x.sheet(0, 0, 18);
        due.is("five by zeros", x.bargains(0, 0, 0, 5), 5);
        due.is("one of three", x.bargains(0, 0, 3, 3), 1);
        due.is("none", x.bargains(0, 0, 0, 6), 0);
        due.is("outside all the same", x.bargains(0, 0, 3, 6), -12);
        due.is("six", x.count(0), 6);
    }

    /** Promise 26. */
    private static void taken() {
        OpenWhileItRains x = new OpenWhileItRains();
        due.is("no bargain", x.taken(0, 0), -11);
        due.is("k ahead of it", x.taken(0, 6), -2);
        due.is("k below", x.taken(0, -1), -2);
        for (int kind = 0; kind < 6; kind++) {
            x.bargain(kind, kind + 3, 0);
        }
        String[] under = {"0", "01", "02", "013", "024", "05"};
        for (int b = 0; b < 6; b++) {
            for (int k = 0; k < 6; k++) {
                int want = under[b].indexOf('0' + k) >= 0 ? b + 3 : -13;
                due.is("taken(" + b + ", " + k + ")", x.taken(b, k), want);
            }
        }
        due.is("none such", x.taken(6, 0), -11);
        due.is("below", x.taken(-1, 0), -11);
        due.is("far", x.taken(MIN, 5), -11);
        due.is("k far", x.taken(0, MAX), -2);
        x.set(2, 3, 0);
        due.is("its number as it is", x.taken(3, 1), 0);
    }
}
