/** Promises 9 to 14: tour, deal, best, few, water, sky. */
public final class ToursTest {
    private static final Due due = new Due();
    private static final int MAX = Integer.MAX_VALUE, MIN = Integer.MIN_VALUE;
    private static final String DRY = "000000000000000000000000";

    public static void main(String[] args) {
        tour();
        tourByDone();
        tourRefused();
        deal();
        best();
        firstOfLikeOnes();
        leave();
        few();
        water();
        waterByRain();
        waterRefused();
        sky();
        due.end();
    }

    private static void toured(OpenWhileItRains x, int sheet, int gain, int dealt, int last, int left) {
        int[] want = {gain, dealt, last, left};
        for (int what = 0; what < 4; what++) {
            due.is("tour(" + sheet + ", " + what + ")", x.tour(sheet, what), want[what]);
        }
    }

    /** Promise 9. */
    private static void tour() {
        OpenWhileItRains x = Due.market("022022000000000000000000", "000022220000000000000000");
        x.bargain(0, 0, 0);
        x.bargain(0, 0, 1);
        x.bargain(4, 9, 1);
        x.bargain(5, 7, 0);
        Due.row(x, 0, 0);
        toured(x, 0, 0, 0, -1, 0);
        Due.row(x, 0, 0, 0);
        toured(x, 0, 18, 1, 2, 0);
        Due.row(x, 0, 0, 0, 1);
        toured(x, 0, 18 + 15, 2, 5, 0);
        Due.row(x, 1, 1, 1, 0);
        toured(x, 1, 15, 1, 5, 1);
        Due.row(x, 1, 1, 1, 0, 3);
        toured(x, 1, 15, 1, 5, 9);
        Due.row(x, 2, 2, 2, 0, 1, 3);
        toured(x, 2, 33, 2, 5, 12);
        Due.row(x, 3, 2, 2);
        toured(x, 3, 0, 0, -1, 4);
        Due.row(x, 3, 0, 3, 0, 1);
        // the umbrella in HOUR 1, then the one in HOURS 4 and 5, then the other in 6 and 7
        toured(x, 3, 7 + 15 + 13, 3, 7, 0);
        // nothing changed
        due.is("none is shaken on", x.count(1), 0);
        // one dealt in the last HOUR leaves no HOUR behind it
        Due.rain(x, 0, "000000000000000000000099");
        Due.row(x, 0, 0, 0, 3);
        toured(x, 0, 0, 1, 23, 8);
    }

    private static void tourByDone() {
        OpenWhileItRains x = Due.market("999999999999999999999999", DRY);
        for (int i = 0; i < 5; i++) {
            x.bargain(i == 1 ? 4 : 0, i == 1 ? 9 : 0, i == 2 ? 1 : 0);
        }
        x.set(4, 4, 1);
        Due.rule(x, "needs 1+done; takes done; value 10*done+hour;");
        // by done: 1 of one HOUR, one in the dry is left out and not done, then 2, then 3
        Due.row(x, 0, 0, 0, 2, 3);
        toured(x, 0, 10 + (20 + 2), 2, 2, 4);
        Due.row(x, 0, 0, 3, 1, 0);
        // 3: HOUR 0, 10; the cow NEEDS 3 + 2 + 3, TAKES 4, HOURS 1 .. 4, 20 + 4 + 10; 0: TAKES 3, HOUR 7, 37
        toured(x, 0, 10 + 34 + 37, 3, 7, 0);
    }

    private static void tourRefused() {
        OpenWhileItRains x = new OpenWhileItRains();
        due.is("no sheet, missing", x.tour(0, 0), -11);
        due.is("what ahead of missing", x.tour(0, 4), -2);
        due.is("what below", x.tour(0, -1), -2);
        int[] none = {-1, 4, MAX, MIN};
        for (int sheet : none) {
            due.is("no such sheet", x.tour(sheet, 0), -2);
            due.is("no such sheet, deal", x.deal(sheet), -2);
        }
        due.is("missing, deal", x.deal(3), -11);
        x.bargain(0, 0, 0);
        x.bargain(0, 0, 0);
        x.bargain(0, 0, 0);
        x.set(4, 2, 1);
        int[][] bad = {{3}, {-1}, {0, 0}, {0, 1, 0}, {2}, {0, 2}, {0, 1, 6}, {MAX}, {MIN}, {0, 1, 2, 3, 4, 5, 6}};
        for (int[] b : bad) {
            Due.row(x, 0, 2, b);
            due.is("no tour", x.tour(0, 0), -2);
            due.is("no tour, deal", x.deal(0), -2);
        }
        Due.row(x, 1, 0, 256);
        due.is("a byte keeps the lowest 8 bits", x.tour(1, 1), 0);
        x.sheet(2, 0, 40);
        due.is("forty times the first", x.tour(2, 0), -2);
        due.is("none was shaken on", x.count(1), 1);
    }

    /** Promise 10. */
    private static void deal() {
        OpenWhileItRains x = Due.market("022022000000000000000000", DRY);
        x.bargain(0, 0, 0);
        x.bargain(0, 0, 1);
        x.bargain(0, 0, 0);
        Due.row(x, 0, 0, 1, 2, 0);
        due.is("deal", x.deal(0), 18 + 15);
        due.is("shaken on", x.told(0, 4) + 10 * x.told(1, 4) + 100 * x.told(2, 4), 101);
        due.is("again", x.deal(0), -2);
        due.is("it tells no tour now", x.tour(0, 0), -2);
        Due.row(x, 0, 0, 1);
        due.is("left out again", x.deal(0), 0);
        due.is("still", x.count(1), 2);
        Due.row(x, 0, 0);
        due.is("of none", x.deal(0), 0);
    }

    private static void bests(OpenWhileItRains x, int order, int gain, int leave) {
        int[] want = {order, gain, leave, gain};
        for (int what = 0; what < 4; what++) {
            due.is("best(" + what + ")", x.best(what), want[what]);
        }
    }

    /** Promise 11. */
    private static void best() {
        OpenWhileItRains x = Due.market("220000000000220000000000", DRY);
        bests(x, 0, 0, -1);
        x.bargain(0, 0, 0);
        bests(x, 1, 19, -1);
        x.bargain(4, 0, 0);
        Due.rule(x, "needs 2*(hour<9); takes 1; value 20-hour;");
        // the cow NEEDS 4 ahead of 9, later 2; TAKES 2: HOURS 12 and 13, (7 + 10) * 2; the other HOUR 0, 20
        bests(x, 12, 20 + 34, -1);
        x.set(2, 1, 9);
        bests(x, 1, 20, 1);
        due.is("best(-1)", x.best(-1), -2);
        due.is("best(4)", x.best(4), -2);
        due.is("best(max)", x.best(MAX), -2);
        x.set(4, 0, 1);
        bests(x, 0, 0, 1);
        x.set(4, 1, 1);
        bests(x, 0, 0, -1);
        OpenWhileItRains six = Due.market("999999999999999999999999", DRY);
        for (int i = 0; i < 6; i++) {
            six.bargain(0, i + 1, 0);
        }
        Due.rule(six, "needs 9; takes 1; value number*(6-done);");
        bests(six, 654321, 36 + 25 + 16 + 9 + 4 + 1, -1);
        // the last HOUR but one is not the last
        Due.rule(six, "needs 1; takes 1; value number;");
        Due.rain(six, 0, "000000000000000000000011");
        bests(six, 56, 6 + 5, 0);
        Due.rain(six, 0, "999999999999999999999999");
        six.force(1);
        six.set(2, 0, 0);
        // what gains nothing stands behind, and the order without it is looked at ahead
        bests(six, 65432, 36 + 25 + 16 + 9 + 4, 0);
    }

    private static void firstOfLikeOnes() {
        OpenWhileItRains x = Due.market("999999999999999999999999", DRY);
        for (int i = 0; i < 6; i++) {
            x.bargain(0, 0, 0);
        }
        Due.rule(x, "needs 1; takes 1; value 5;");
        bests(x, 123456, 30, -1);
        Due.rule(x, "needs 1; takes 1; value 5*(done<3);");
        bests(x, 123, 15, 0);
        Due.rule(x, "needs 1; takes 1; value 0;");
        bests(x, 0, 0, 0);
        // one that is left out stands in the order, if the order with it is looked at first
        x.set(3, 0, 1);
        Due.rule(x, "needs 1; takes 1; value 5*(done<2);");
        bests(x, 123, 10, 0);
        x.set(4, 0, 1);
        x.set(4, 1, 1);
        Due.rule(x, "needs 1; takes 1; value 5*(done<4);");
        bests(x, 34, 10, 2);
    }

    private static void leave() {
        OpenWhileItRains x = Due.market("900000000000000000000000", "090000000000000000000000");
        x.bargain(0, 3, 0);
        x.bargain(0, 4, 0);
        x.bargain(0, 5, 1);
        Due.rule(x, "needs 1; takes 1; value number;");
        // the second, the first is left out, the third: that is looked at ahead of the second, the third
        bests(x, 213, 9, 0);
        x.set(2, 0, 6);
        bests(x, 123, 11, 1);
        x.set(2, 1, 6);
        bests(x, 123, 11, 0);
        x.set(4, 0, 1);
        bests(x, 23, 11, -1);
    }

    /** Promise 12. */
    private static void few() {
        OpenWhileItRains x = Due.market("999999999999999999999999", DRY);
        for (int i = 0; i < 6; i++) {
            x.bargain(0, i + 1, 0);
        }
        Due.rule(x, "needs 1; takes 1; value number;");
        int[] want = {0, 6, 11, 15, 18, 20, 21};
        for (int n = 0; n < want.length; n++) {
            due.is("few(" + n + ")", x.few(n), want[n]);
        }
        due.is("few(7)", x.few(7), -2);
        due.is("few(-1)", x.few(-1), -2);
        due.is("few(min)", x.few(MIN), -2);
        x.set(4, 5, 1);
        due.is("few of the others", x.few(1), 5);
        due.is("few of all others", x.few(6), 15);
        due.is("none", new OpenWhileItRains().few(6), 0);
    }

    private static void watered(OpenWhileItRains x, int place, int gain) {
        due.is("water(0)", x.water(0), place);
        due.is("water(1)", x.water(1), gain);
    }

    /** Promise 13. */
    private static void water() {
        OpenWhileItRains x = Due.market(DRY, DRY);
        watered(x, -1, 0);
        x.bargain(0, 0, 1);
        watered(x, -1, 0);
        x.set(1, 105, 2);
        watered(x, 104, 15);
        due.is("the rain stays", x.told(104, 1), 0);
        x.set(1, 104, 1);
        watered(x, 104, 15);
        due.is("the little rain stays", x.told(104, 1), 1);
        x.set(1, 106, 9);
        watered(x, 104, 15);
        x.set(3, 0, 0);
        watered(x, -1, 0);
        x.set(1, 10, 2);
        x.set(1, 12, 2);
        watered(x, 9, 10);
        x.set(1, 9, 2);
        x.set(1, 11, 2);
        // from 9 on 10; with HOUR 8 it is shaken in HOUR 9
        watered(x, 8, 11);
        x.set(4, 0, 1);
        watered(x, -1, 0);
        // of like ones the first, also among the streets
        OpenWhileItRains y = Due.market("000000000000000000000000", "000000000000000000000000");
        y.bargain(0, 0, 1);
        y.bargain(0, 0, 0);
        Due.rule(y, "needs 1; takes 1; value 7;");
        watered(y, 0, 7);
        y.set(1, 0, 1);
        // the other street's HOUR 0 would not do: one of both is behind the other
        watered(y, 101, 14);
        y.set(1, 101, 3);
        watered(y, -1, 14);
        y.set(1, 101, 0);
        y.set(1, 0, 0);
        y.set(1, 23, 1);
        watered(y, 100, 14);
    }

    private static void waterByRain() {
        // watering can do harm: a text may tell more by less of RAIN
        OpenWhileItRains x = Due.market("111111111111111111111111", DRY);
        x.bargain(0, 0, 0);
        Due.rule(x, "needs 1; takes 1; value 9-rain;");
        watered(x, -1, 8);
        Due.rule(x, "needs 1; takes 1; value rain;");
        watered(x, 0, 9);
        x.bargain(0, 0, 0);
        watered(x, 0, 10);
        Due.rain(x, 0, "911111111111111111111111");
        watered(x, 1, 18);
        Due.rain(x, 0, "999999999999999999999999");
        watered(x, -1, 18);
        // needs and takes by the rain of the HOUR in which it is begun
        Due.rain(x, 0, "333300000000000000000000");
        x.set(4, 1, 1);
        Due.rule(x, "needs rain; takes 1+(rain<4)*3; value hour+(rain=9)*30;");
        watered(x, 3, 33);
    }

    private static void waterRefused() {
        OpenWhileItRains x = Due.market("999999999999999999999999", DRY);
        for (int i = 0; i < 5; i++) {
            x.bargain(0, 0, 0);
        }
        due.is("five", x.water(0), -3);
        due.is("five", x.water(1), -3);
        due.is("what ahead of five", x.water(2), -2);
        due.is("what below", x.water(-1), -2);
        x.set(4, 2, 1);
        due.is("four", x.water(0), -1);
        due.is("four", x.water(1), 19 + 17 + 15 + 13);
        x.bargain(0, 0, 0);
        due.is("five of six", x.water(1), -3);
    }

    /** Promise 14. */
    private static void sky() {
        OpenWhileItRains x = Due.market("110111000222000000000009", "000000000000000000111111");
        int[][] want = {{3, 3, 9, 9 + 11, 0}, {6, 18, 6, 6, 0}};
        int shut = 0;
        String both = "110111000222000000111111";
        for (int h = 0; h < 24; h++) {
            shut += both.charAt(h) == '0' ? 1 << h : 0;
        }
        for (int street = 0; street < 2; street++) {
            for (int what = 0; what < 4; what++) {
                due.is("sky(" + street + ", " + what + ")", x.sky(street, what), want[street][what]);
            }
            due.is("sky(" + street + ", 4)", x.sky(street, 4), shut);
        }
        Due.rain(x, 0, "999999999999999999999999");
        due.is("all day", x.sky(0, 0), 24);
        due.is("from the first", x.sky(0, 1), 0);
        due.is("all hours", x.sky(0, 2), 24);
        due.is("all rain", x.sky(0, 3), 216);
        due.is("never shut", x.sky(1, 4), 0);
        Due.rain(x, 100, DRY);
        due.is("no shower", x.sky(1, 0), 0);
        due.is("dry", x.sky(1, 1), -1);
        int[][] bad = {{-1, 0}, {2, 0}, {2, 4}, {MIN, 4}, {0, -1}, {0, 5}, {MAX, MAX}};
        for (int[] b : bad) {
            due.is("sky", x.sky(b[0], b[1]), -2);
        }
        Due.rain(x, 0, "000010001000000000000001");
        due.is("a shower of one HOUR", x.sky(0, 0), 1);
        due.is("the first of them", x.sky(0, 1), 4);
        Due.rain(x, 0, DRY);
        due.is("always shut", x.sky(0, 4), (1 << 24) - 1);
    }
}
