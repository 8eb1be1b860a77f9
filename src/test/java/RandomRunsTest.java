import java.util.Random;

/** Random runs of 512 calls, each call's answer held against the plain model's. The seeds are fixed. */
public final class RandomRunsTest {
    private static final int CALLS = 512;
    private static final String[] ONES = {
        "rain", "hour", "number", "done", "street", "west", "0", "1", "2", "3", "7", "12", "40", "9999"};

    private final Random random;
    private final OpenWhileItRains x = new OpenWhileItRains();
    private final Model model = new Model();
    private final int run;
    private int calls;
    private int wrong;

    private RandomRunsTest(int run) {
        this.run = run;
        this.random = new Random(run);
    }

    public static void main(String[] args) {
        int runs = args.length > 0 ? Integer.parseInt(args[0]) : 400;
        int wrong = 0;
        for (int run = 0; run < runs; run++) {
            wrong += new RandomRunsTest(run).wrongOnes();
        }
        System.out.println(runs + " random runs, " + wrong + " wrong answers");
        if (wrong != 0) {
            System.exit(1);
        }
    }

    private int wrongOnes() {
        wet(random.nextInt(10));
        for (int i = random.nextInt(7); i > 0; i--) {
            bargain();
        }
        while (calls < CALLS && wrong == 0) {
            one(random.nextInt(100));
        }
        return wrong;
    }

    private void due(String call, long got, long want) {
        calls++;
        if (got != want) {
            wrong++;
            System.out.println("run " + run + ", call " + calls + ": " + call + " answered " + got + ", due is " + want);
        }
    }

    /** Mostly within the bounds, now and then a little or far beyond. */
    private int some(int least, int most) {
        int odd = random.nextInt(60);
        if (odd == 0) {
            return random.nextBoolean() ? least - 1 : most + 1;
        }
        if (odd == 1) {
            int[] far = {Integer.MIN_VALUE, Integer.MAX_VALUE, -100, 1000, random.nextInt()};
            return far[random.nextInt(far.length)];
        }
        return least + random.nextInt(most - least + 1);
    }

    private void set(int what, int of, int v) {
        due("set(" + what + ", " + of + ", " + v + ")", x.set(what, of, v), model.set(what, of, v));
    }

    private void wet(int much) {
        for (int i = 0; i < 48; i++) {
            int v = random.nextInt(12) <= much ? 1 + random.nextInt(9) : random.nextInt(3);
            set(1, i / 24 * 100 + i % 24, v);
        }
    }

    private void bargain() {
        int kind = some(0, 5), number = some(0, 9), street = some(0, 1);
        due("bargain(" + kind + ", " + number + ", " + street + ")",
            x.bargain(kind, number, street), model.bargain(kind, number, street));
    }

    private void text() {
        int left = 160 - model.count(4);
        String tape = random.nextInt(8) == 0 ? deep() : "needs " + e(2) + ";takes " + e(2) + ";value " + e(3) + ";";
        if (random.nextInt(4) == 0) {
            tape = spoilt(tape);
        }
        for (int i = 0; i < tape.length() && i < left + 1; i++) {
            int c = tape.charAt(i);
            due("feed(" + c + ")", x.feed(c), model.feed(c));
        }
        due("text() of " + tape, x.text(), model.text());
    }

    /** Some six openings within one another, so that one too many is among them. */
    private String deep() {
        StringBuilder open = new StringBuilder();
        StringBuilder close = new StringBuilder();
        boolean sum = false;
        for (int i = 4 + random.nextInt(3); i > 0; i--) {
            int which = random.nextInt(3);
            if (which == 0 && !sum) {
                open.append("not ");
            } else if (which == 1) {
                open.append("-");
                sum = true;
            } else {
                open.append("(");
                close.insert(0, random.nextBoolean() ? "*-2)" : ")");
                sum = false;
            }
        }
        return "needs " + open + "hour" + close + ";takes 1+(1<done);value " + e(2) + ";";
    }

    private String e(int depth) {
        if (depth == 0 || random.nextInt(3) == 0) {
            return ONES[random.nextInt(ONES.length)];
        }
        String a = e(depth - 1), b = e(depth - 1);
        switch (random.nextInt(11)) {
            case 0: return a + " or " + b;
            case 1: return a + " and " + b;
            case 2: return "(not " + a + ")";
            case 3: return a + "<" + b;
            case 4: return "(" + a + "=" + b + ")";
            case 5: return a + "+" + b;
            case 6: return a + " - " + b;
            case 7: return a + "\n*" + b;
            case 8: return "-" + a;
            case 9: return "30+" + a + "-" + b;
            default: return "(" + a + ")";
        }
    }

    private String spoilt(String tape) {
        int at = random.nextInt(tape.length());
        String[] odd = {"", " ", "(", ")", ";", "not ", "12345", "x", "A", "\t", "or", "rain", "--", "<", "=", "*", "0", "\n"};
        String in = odd[random.nextInt(odd.length)];
        switch (random.nextInt(3)) {
            case 0: return tape.substring(0, at);
            case 1: return tape.substring(0, at) + in + tape.substring(at + 1);
            default: return tape.substring(0, at) + in + tape.substring(at);
        }
    }

    private void one(int which) {
        if (which < 12) {
            int what = some(0, 4);
            set(what, what == 1 ? some(0, 1) * 100 + some(0, 23) : some(0, 5), some(0, what < 3 ? 9 : 1));
        } else if (which < 16) {
            bargain();
        } else if (which < 20) {
            int of = some(0, 1) * 100 + some(0, 23), b = some(0, 5), what = some(0, 5);
            of = what == 1 ? of : b;
            due("told(" + of + ", " + what + ")", x.told(of, what), model.told(of, what));
        } else if (which < 32) {
            int b = some(0, 5), hour = some(0, 23), what = some(0, 4);
            due("asks(" + b + ", " + hour + ", " + what + ")", x.asks(b, hour, what), model.asks(b, hour, what));
        } else if (which < 34) {
            text();
        } else if (which < 37) {
            int text = some(0, 5);
            due("force(" + text + ")", x.force(text), model.force(text));
        } else if (which < 40) {
            makeTour();
        } else if (which < 50) {
            int sheet = some(0, 3), what = some(0, 3);
            due("tour(" + sheet + ", " + what + ")", x.tour(sheet, what), model.tour(sheet, what));
        } else if (which < 51) {
            int sheet = some(0, 3);
            due("deal(" + sheet + ")", x.deal(sheet), model.deal(sheet));
        } else if (which < 56) {
            sought();
        } else if (which < 60) {
            int street = some(0, 1), what = some(0, 4);
            due("sky(" + street + ", " + what + ")", x.sky(street, what), model.sky(street, what));
        } else if (which < 74) {
            told();
        } else if (which < 80) {
            drawn();
        } else if (which < 84) {
            if (random.nextBoolean()) {
                due("image()", x.image(), model.image());
            } else {
                due("back()", x.back(), model.back());
            }
        } else if (which < 88) {
            int what = some(0, 5);
            due("count(" + what + ")", x.count(what), model.count(what));
        } else {
            host(which);
        }
    }

    private void sheet(int sheet, int sort, int n) {
        due("sheet(" + sheet + ", " + sort + ", " + n + ")", x.sheet(sheet, sort, n), model.sheet(sheet, sort, n));
    }

    private void cell(int sheet, int i, int v) {
        due("cell(" + sheet + ", " + i + ", " + v + ")", x.cell(sheet, i, v), model.cell(sheet, i, v));
    }

    private void makeTour() {
        int sheet = some(0, 3), n = random.nextInt(5), first = random.nextInt(6);
        sheet(sheet, some(0, 2), n);
        int step = random.nextBoolean() ? 1 : 5;
        for (int i = 0; i < n; i++) {
            cell(sheet, i, (first + i * step) % 6);
        }
        due("tour(" + sheet + ", 0)", x.tour(sheet, 0), model.tour(sheet, 0));
        due("tour(" + sheet + ", 3)", x.tour(sheet, 3), model.tour(sheet, 3));
    }

    private void sought() {
        int many = 6 - model.count(1);
        if (random.nextInt(3) == 0 && many < 6) {
            int what = some(0, 1);
            due("water(" + what + ")", x.water(what), model.water(what));
        } else if (random.nextBoolean()) {
            int what = some(0, 3);
            due("best(" + what + ")", x.best(what), model.best(what));
        } else {
            int n = some(0, 6);
            due("few(" + n + ")", x.few(n), model.few(n));
        }
    }

    private void told() {
        int sheet = some(0, 3), b = some(0, 5), n = some(0, 24);
        if (random.nextInt(3) == 0) {
            due("film(" + sheet + ", " + b + ", " + n + ")", x.film(sheet, b, n), model.film(sheet, b, n));
            if (random.nextInt(3) == 0) {
                cell(sheet, some(0, 23), some(0, 30));
            }
        }
        for (int i = 0; i < 3; i++) {
            int what = random.nextBoolean() ? some(0, 5) : some(10, 33);
            due("tells(" + sheet + ", " + b + ", " + what + ")", x.tells(sheet, b, what), model.tells(sheet, b, what));
        }
    }

    private void drawn() {
        int seed = random.nextInt(5) == 0 ? Integer.MAX_VALUE - random.nextInt(20) : random.nextInt();
        if (random.nextBoolean()) {
            due("drawn(" + seed + ")", x.drawn(seed), model.drawn(seed));
            return;
        }
        int m = some(1, 20), k = random.nextInt(9) == 0 ? some(0, 9999) : some(0, 120), part = some(0, 1);
        due("chance(" + seed + ", " + m + ", " + k + ", " + part + ")",
            x.chance(seed, m, k, part), model.chance(seed, m, k, part));
    }

    private void host(int which) {
        int sheet = some(0, 3), other = some(0, 3), sort = some(-1, 2);
        if (which < 90) {
            sheet(sheet, sort, some(0, 40));
        } else if (which < 94) {
            cell(sheet, some(0, 30), random.nextInt(3) == 0 ? random.nextInt() : some(0, 9));
        } else if (which < 97) {
            int i = some(0, 12), j = some(0, 12), n = some(0, 10);
            due("copy(" + sheet + ", " + i + ", " + other + ", " + j + ", " + n + ")",
                x.copy(sheet, i, other, j, n), model.copy(sheet, i, other, j, n));
        } else if (which < 98) {
            int from = some(0, 12), n = some(0, 6);
            due("bargains(" + sheet + ", " + sort + ", " + from + ", " + n + ")",
                x.bargains(sheet, sort, from, n), model.bargains(sheet, sort, from, n));
        } else {
            int b = some(0, 5), k = some(0, 5);
            due("taken(" + b + ", " + k + ")", x.taken(b, k), model.taken(b, k));
        }
    }
}
