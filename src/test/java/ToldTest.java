/** Promises 15 to 21: tells, film, drawn, chance, image, back, count. */
public final class ToldTest {
    private static final Due due = new Due();
    private static final int MAX = Integer.MAX_VALUE, MIN = Integer.MIN_VALUE;
    private static final String DRY = "000000000000000000000000";

    public static void main(String[] args) {
        firstOther();
        kindsAndNumbers();
        westsDoneTexts();
        rainThatCouldBe();
        tellsRefused();
        film();
        drawn();
        drawnTour();
        chance();
        imageAndBack();
        imagesOfLittle();
        count();
        due.end();
    }

    private static void told(OpenWhileItRains x, int sheet, int b, int what, int want) {
        due.is("tells(" + sheet + ", " + b + ", " + what + ")", x.tells(sheet, b, what), want);
    }

    /** Promise 15. */
    private static void firstOther() {
        OpenWhileItRains x = new OpenWhileItRains();
        x.bargain(0, 0, 0);
        x.bargain(2, 0, 0);
        Due.row(x, 0, 0, 20, 19, 18, 17);
        told(x, 0, 0, 0, -1);
        told(x, 0, 1, 0, 0);
        x.cell(0, 3, 16);
        told(x, 0, 0, 0, 3);
        told(x, 0, 0, 1, 0);
        Due.row(x, 0, 2);
        told(x, 0, 0, 0, -1);
        told(x, 0, 0, 1, 63);
        told(x, 0, 0, 2, 1023);
        told(x, 0, 0, 3, 1023);
        told(x, 0, 0, 4, 127);
        told(x, 0, 0, 5, 1);
        told(x, 0, 0, 33, 1023);
        Due.row(x, 1, 1, 30, 29, 28, 27, 26, 25, 24, 23, 22, 21, 20, 19, 18, 17, 16, 15, 14, 13, 12, 11, 10, 10, 10, 10);
        told(x, 1, 1, 0, -1);
        x.cell(1, 23, 11);
        told(x, 1, 1, 0, 23);
        // one that is SHAKEN on, the same
        x.set(4, 0, 1);
        Due.row(x, 2, 2, 20, 19);
        told(x, 2, 0, 0, -1);
    }

    private static void kindsAndNumbers() {
        OpenWhileItRains x = new OpenWhileItRains();
        x.bargain(3, 5, 0);
        Due.row(x, 0, 1, 20);
        // in HOUR 0 a bargain, eggs, cheese are alike
        told(x, 0, 0, 1, 1 + 2 + 8);
        Due.row(x, 0, 1, 20, 17);
        told(x, 0, 0, 1, 8);
        told(x, 0, 0, 2, 1023);
        Due.row(x, 0, 1, 30, 29);
        told(x, 0, 0, 1, 4 + 16);
        told(x, 0, 0, 0, 0);
        told(x, 0, 0, 2, 0);
        Due.row(x, 0, 1, 5, 5, 5, 0);
        told(x, 0, 0, 1, 32);
        OpenWhileItRains y = new OpenWhileItRains();
        y.bargain(5, 3, 1);
        Due.row(y, 0, 1, 8, 8, 8, 0);
        told(y, 0, 0, 0, 0);
        told(y, 0, 0, 2, 1 << 8);
        Due.rule(y, "needs 1; takes 1; value number*hour;");
        y.bargain(0, 3, 1);
        Due.row(y, 0, 1, 0, 7, 14);
        told(y, 0, 1, 2, 1 << 7);
        told(y, 0, 1, 0, 1);
        Due.row(y, 0, 1, 0);
        told(y, 0, 1, 2, 1023);
        told(y, 0, 0, 2, 1);
    }

    private static void westsDoneTexts() {
        OpenWhileItRains x = new OpenWhileItRains();
        x.bargain(0, 0, 0);
        x.bargain(0, 0, 0);
        x.set(0, 0, 9);
        x.set(4, 1, 1);
        Due.rule(x, "needs 1; takes 1; value west*hour;");
        Due.row(x, 0, 2, 0, 4, 8);
        told(x, 0, 0, 3, 16);
        told(x, 0, 0, 0, 1);
        Due.row(x, 0, 2, 0, 9);
        told(x, 0, 0, 3, 512);
        told(x, 0, 0, 0, -1);
        due.is("the west stays", x.told(0, 0), 9);
        Due.rule(x, "needs 1; takes 1; value 10-done*(2-done);");
        Due.row(x, 1, 2, 9);
        told(x, 1, 0, 0, -1);
        told(x, 1, 0, 4, 2);
        Due.row(x, 1, 2, 10);
        told(x, 1, 0, 4, 1 + 4);
        Due.row(x, 1, 2, 34);
        told(x, 1, 0, 4, 64);
        Due.row(x, 1, 2, 45);
        told(x, 1, 0, 4, 0);
        Due.text(x, "needs 1; takes 1; value 20-hour*2+hour;");
        Due.row(x, 2, 0, 20, 19, 18);
        told(x, 2, 0, 5, 1 + 8);
        told(x, 2, 0, 0, 0);
        Due.row(x, 2, 0, 0, 9, 18);
        told(x, 2, 0, 5, 2);
        due.is("the rule stays", x.count(5), 2);
        Due.row(x, 2, 0);
        told(x, 2, 0, 5, 15);
    }

    private static void rainThatCouldBe() {
        OpenWhileItRains x = Due.market("111111111111111111111111", "222222222222222222222222");
        x.bargain(0, 0, 1);
        Due.rule(x, "needs 1; takes 1; value (rain<5)*7;");
        Due.row(x, 0, 0, 7, 7, 7);
        told(x, 0, 0, 10, 31);
        told(x, 0, 0, 12, 31);
        told(x, 0, 0, 13, 1023);
        told(x, 0, 0, 33, 1023);
        Due.row(x, 0, 0, 7, 0, 7);
        told(x, 0, 0, 0, 1);
        told(x, 0, 0, 10, 0);
        told(x, 0, 0, 11, 1023 - 31);
        told(x, 0, 0, 12, 0);
        told(x, 0, 0, 13, 0);
        due.is("the rain stays", x.told(101, 1), 2);
        x.set(1, 101, 8);
        told(x, 0, 0, 0, -1);
        told(x, 0, 0, 11, 1023 - 31);
        told(x, 0, 0, 12, 31);
        // RAIN of the other street is another thing
        x.set(1, 1, 9);
        told(x, 0, 0, 11, 1023 - 31);
        x.set(3, 0, 0);
        told(x, 0, 0, 11, 1023 - 31);
        told(x, 0, 0, 0, -1);
        x.set(1, 1, 0);
        told(x, 0, 0, 0, 1);
    }

    private static void tellsRefused() {
        OpenWhileItRains x = new OpenWhileItRains();
        due.is("no bargain ahead of missing", x.tells(0, 0, 0), -2);
        x.bargain(0, 0, 0);
        due.is("missing", x.tells(0, 0, 0), -11);
        due.is("what ahead of missing", x.tells(0, 0, 6), -2);
        x.sheet(1, 2, 25);
        x.sheet(2, 2, 24);
        due.is("more than 24", x.tells(1, 0, 0), -2);
        due.is("more than 24, rain", x.tells(1, 0, 10), -2);
        due.is("24", x.tells(2, 0, 0), 0);
        int[][] bad = {{-1, 0, 0}, {4, 0, 0}, {MIN, 0, 0}, {2, -1, 0}, {2, 1, 0}, {2, MAX, 0}, {2, 0, -1}, {2, 0, 6},
            {2, 0, 9}, {2, 0, 34}, {2, 0, MAX}, {2, 0, MIN}};
        for (int[] b : bad) {
            due.is("tells(" + b[0] + ", " + b[1] + ", " + b[2] + ")", x.tells(b[0], b[1], b[2]), -2);
        }
    }

    /** Promise 16. */
    private static void film() {
        OpenWhileItRains x = new OpenWhileItRains();
        x.bargain(0, 0, 0);
        x.bargain(2, 0, 0);
        due.is("film", x.film(0, 1, 3), 3);
        told(x, 0, 1, 0, -1);
        told(x, 0, 0, 0, 0);
        due.is("a row of shorts", x.sheet(1, 1, 3) + x.copy(0, 0, 1, 0, 3), 1 + 3);
        x.sheet(1, 2, 3);
        due.is("no row of ints", x.copy(0, 0, 1, 0, 1), -13);
        due.is("no fourth", x.cell(0, 3, 0), -12);
        due.is("film of none", x.film(0, 1, 0), 0);
        due.is("no item", x.cell(0, 0, 0), -12);
        due.is("all hours", x.film(3, 0, 24), 24);
        told(x, 3, 0, 0, -1);
        due.is("the last", x.cell(3, 23, 1), 1);
        told(x, 3, 0, 0, 23);
        // by what was SHAKEN on, the rain, the west as they are
        Due.rule(x, "needs 1; takes 1; value done*40+west+rain*2;");
        x.set(0, 0, 3);
        x.set(1, 1, 7);
        x.set(4, 1, 1);
        x.film(2, 0, 2);
        Due.row(x, 3, 1, 43, 57);
        told(x, 3, 0, 0, -1);
        x.set(0, 0, 4);
        told(x, 2, 0, 0, 0);
        told(x, 2, 0, 3, 8);
        int[][] bad = {{-1, 0, 0}, {4, 0, 0}, {0, 2, 0}, {0, -1, 0}, {0, 0, -1}, {0, 0, 25}, {MAX, MAX, MAX}};
        for (int[] b : bad) {
            due.is("film", x.film(b[0], b[1], b[2]), -2);
        }
        due.is("refused, it stays", x.cell(2, 1, 1), 1);
    }

    private static int much(int z) {
        int d = (z >>> 9) % 10;
        return d < 4 ? 0 : d;
    }

    /** Promise 17: the first wet HOUR of a street, told by the GAIN of one BARGAIN there. */
    private static void drawn() {
        OpenWhileItRains x = new OpenWhileItRains();
        due.is("none", x.drawn(5), 0);
        x.bargain(0, 0, 0);
        Due.rule(x, "needs 1; takes 1; value hour+1;");
        for (int seed = -3; seed < 40; seed++) {
            int z = seed;
            int first = -1;
            for (int h = 0; h < 24; h++) {
                z = z * 1103515245 + 12345;
                first = first < 0 && much(z) > 0 ? h : first;
            }
            x.set(3, 0, 0);
            due.is("street 0 by " + seed, x.drawn(seed), first + 1);
            first = -1;
            for (int h = 0; h < 24; h++) {
                z = z * 1103515245 + 12345;
                first = first < 0 && much(z) > 0 ? h : first;
            }
            x.set(3, 0, 1);
            due.is("street 1 by " + seed, x.drawn(seed), first + 1);
        }
        due.is("the rain stays", x.count(2), 0);
        due.is("none is shaken on", x.count(1), 0);
        // 0 by SEED 0 is z = 12345: 12345 >>> 9 is 24: RAIN 4; SEED 1: 1103527590 >>> 9 is 2155327: RAIN 7
        x.set(3, 0, 0);
        Due.rule(x, "needs 1; takes 1; value rain*(hour=0);");
        due.is("RAIN by SEED 0", x.drawn(0), 4);
        due.is("RAIN by SEED 1", x.drawn(1), 7);
    }

    private static void drawnTour() {
        OpenWhileItRains x = new OpenWhileItRains();
        x.bargain(0, 1, 0);
        x.bargain(0, 2, 0);
        x.bargain(0, 3, 0);
        Due.rule(x, "needs 1; takes 1; value number+10*done;");
        due.is("by numbers", x.drawn(77), 1 + 12 + 23);
        x.set(4, 1, 1);
        due.is("those that aren't shaken on", x.drawn(77), 11 + 23);
        x.set(0, 0, 9);
        Due.rule(x, "needs 1; takes 1; value west;");
        due.is("the west is true", x.drawn(77), 18);
    }

    /** Promise 18. */
    private static void chance() {
        OpenWhileItRains x = new OpenWhileItRains();
        due.is("always, above", x.chance(3, 20, 0, 0), 1);
        due.is("always, below", x.chance(3, 20, 0, 1), 1);
        due.is("never, above", x.chance(3, 20, 1, 0), 0);
        due.is("never, below", x.chance(3, 20, 1, 1), 1);
        x.bargain(0, 0, 0);
        Due.rule(x, "needs 9; takes 2; value 90-hour;");
        for (int seed = MAX - 12; seed != MIN + 12; seed++) {
            for (int m = 1; m <= 20; m += 1) {
                int above = 0;
                for (int i = 0; i < m; i++) {
                    above += x.drawn(seed + i) >= 80 ? 1 : 0;
                }
                int d = m;
                while (above % d != 0 || m % d != 0) {
                    d--;
                }
                due.is("above of " + m, x.chance(seed, m, 80, 0), above / d);
                due.is("below of " + m, x.chance(seed, m, 80, 1), m / d);
            }
        }
        int exact = x.drawn(9);
        due.is("that or more", x.chance(9, 1, exact, 0), 1);
        due.is("one more", x.chance(9, 1, exact + 1, 0), 0);
        due.is("the most k", x.chance(9, 1, 9999, 0), 0);
        int[][] no = {{0, 0, 0}, {-1, 0, 0}, {21, 0, 0}, {MAX, 0, 0}, {1, -1, 0}, {1, 10000, 0}, {1, MIN, 0},
            {1, 0, -1}, {1, 0, 2}};
        for (int[] n : no) {
            due.is("chance", x.chance(0, n[0], n[1], n[2]), -4611686018427387904L);
        }
    }

    /** Promises 19 and 20. */
    private static void imageAndBack() {
        OpenWhileItRains x = Due.market("123000000000000000000000", "000000000000000000000009");
        x.bargain(4, 5, 1);
        x.bargain(1, 6, 0);
        x.set(0, 0, 7);
        x.set(4, 1, 1);
        Due.text(x, "needs 3;takes 3;value 3;");
        due.is("image", x.image(), 2);
        x.set(0, 0, 1);
        x.set(1, 0, 9);
        x.set(1, 123, 0);
        x.set(2, 0, 1);
        x.set(3, 0, 0);
        x.set(4, 0, 1);
        x.set(4, 1, 0);
        x.force(1);
        x.bargain(5, 9, 1);
        x.feed('n');
        Due.row(x, 0, 0, 8);
        for (int i = 0; i < 2; i++) {
            due.is("back", x.back(), 2);
            due.is("bargains", x.count(0), 2);
            due.is("the third is gone", x.told(2, 5), -2);
            due.is("west", x.told(0, 0), 7);
            due.is("rain", x.told(0, 1) * 10 + x.told(123, 1), 19);
            due.is("number", x.told(0, 2), 5);
            due.is("street", x.told(0, 3), 1);
            due.is("shaken", x.told(0, 4) * 10 + x.told(1, 4), 1);
            due.is("kinds", x.told(0, 5) * 10 + x.told(1, 5), 41);
            due.is("rule", x.count(5), 0);
            due.is("texts stay", x.count(3), 2);
            due.is("the tape stays", x.count(4), 1);
            due.is("sheets stay", x.cell(0, 0, 8), 1);
            x.set(0, 0, 2);
            x.set(1, 0, 0);
            x.set(4, 1, 0);
            x.force(1);
            x.bargain(2, 2, 0);
        }
        due.is("another image", x.image(), 3);
        x.set(0, 0, 9);
        due.is("back to that", x.back(), 3);
        due.is("west of that", x.told(0, 0), 2);
        due.is("kind of the third", x.told(2, 5), 2);
        due.is("rule of that", x.count(5), 1);
    }

    private static void imagesOfLittle() {
        OpenWhileItRains x = new OpenWhileItRains();
        due.is("none", x.back(), -3);
        due.is("an image of no bargains", x.image(), 0);
        x.bargain(0, 1, 1);
        x.set(4, 0, 1);
        due.is("back to none", x.back(), 0);
        due.is("no bargain", x.told(0, 2), -2);
        due.is("none shaken on", x.count(1), 0);
        due.is("one that comes anew", x.bargain(3, 3, 0), 0);
        due.is("is not shaken on", x.told(0, 4), 0);
        due.is("its kind", x.told(0, 5), 3);
    }

    /** Promise 21. */
    private static void count() {
        OpenWhileItRains x = Due.market("100000000000000000000009", "900000000000000000000010");
        x.bargain(0, 0, 0);
        x.bargain(0, 0, 0);
        x.bargain(0, 0, 0);
        x.set(4, 0, 1);
        x.set(4, 2, 1);
        Due.rule(x, "needs 1;takes 1;value 1;");
        Due.text(x, "needs 1;takes 1;value 1;");
        x.feed(0);
        int[] want = {3, 2, 4, 3, 1, 1};
        for (int what = 0; what < want.length; what++) {
            due.is("count(" + what + ")", x.count(what), want[what]);
        }
        due.is("count(-1)", x.count(-1), -2);
        due.is("count(6)", x.count(6), -2);
        due.is("count(max)", x.count(MAX), -2);
        Due.rain(x, 0, DRY);
        due.is("wet", x.count(2), 2);
    }
}
