import java.util.ArrayList;
import java.util.List;

/**
 * The document once more, written as plainly and as unlike the class as can be: texts are trees,
 * tours are tried one by one from lists, nothing is remembered. For random runs to be held against.
 */
final class Model {
    private static final int BAD = -2;
    private static final long NO = -4611686018427387904L;

    private static final class Bargain {
        int kind, number, street, shaken;

        Bargain(int kind, int number, int street, int shaken) {
            this.kind = kind;
            this.number = number;
            this.street = street;
            this.shaken = shaken;
        }
    }

    private static final class Fault extends RuntimeException {
        private static final long serialVersionUID = 1L;
        final int place;

        Fault(int place) {
            this.place = place;
        }
    }

    /** What names mean in one asking. */
    private record Names(int rain, int hour, int number, int done, int street, int west) {
        int of(String name) {
            return switch (name) {
                case "rain" -> rain;
                case "hour" -> hour;
                case "number" -> number;
                case "done" -> done;
                case "street" -> street;
                default -> west;
            };
        }
    }

    private interface Tree {
        int value(Names names);
    }

    private static final class Text {
        Tree needs, takes, value;
    }

    /** Reads a text from the left; a place is looked at only when it is come to. */
    private static final class TextReader {
        private final String tape;
        private int at;

        TextReader(String tape) {
            this.tape = tape;
        }

        Text read() {
            Text text = new Text();
            must("needs");
            text.needs = or(5);
            must(";");
            must("takes");
            text.takes = or(5);
            must(";");
            must("value");
            text.value = or(5);
            must(";");
            if (!peek().isEmpty()) {
                throw new Fault(at);
            }
            return text;
        }

        /** The next token, at a place behind the blanks; "" at the end. */
        private String peek() {
            while (at < tape.length() && (tape.charAt(at) == 32 || tape.charAt(at) == 10)) {
                at++;
            }
            if (at == tape.length()) {
                return "";
            }
            int to = at;
            if ("();+-*<=".indexOf(tape.charAt(at)) >= 0) {
                return tape.substring(at, at + 1);
            }
            while (to < tape.length() && tape.charAt(to) >= 'a' && tape.charAt(to) <= 'z') {
                to++;
            }
            if (to > at) {
                String word = tape.substring(at, to);
                if (!" needs takes value or and not rain hour number done street west ".contains(" " + word + " ")) {
                    throw new Fault(at);
                }
                return word;
            }
            while (to < tape.length() && tape.charAt(to) >= '0' && tape.charAt(to) <= '9') {
                to++;
            }
            if (to == at || to - at > 4) {
                throw new Fault(at);
            }
            return tape.substring(at, to);
        }

        private boolean take(String token) {
            boolean is = peek().equals(token);
            if (is) {
                at += token.length();
            }
            return is;
        }

        private void must(String token) {
            if (!take(token)) {
                throw new Fault(at);
            }
        }

        private Tree or(int room) {
            Tree left = and(room);
            while (take("or")) {
                Tree a = left;
                Tree b = and(room);
                left = n -> a.value(n) != 0 | b.value(n) != 0 ? 1 : 0;
            }
            return left;
        }

        private Tree and(int room) {
            Tree left = not(room);
            while (take("and")) {
                Tree a = left;
                Tree b = not(room);
                left = n -> a.value(n) != 0 & b.value(n) != 0 ? 1 : 0;
            }
            return left;
        }

        private void mustHave(int room) {
            if (room == 0) {
                throw new Fault(at);
            }
        }

        private Tree not(int room) {
            if (peek().equals("not")) {
                mustHave(room);
                must("not");
                Tree of = not(room - 1);
                return n -> of.value(n) == 0 ? 1 : 0;
            }
            Tree left = sum(room);
            if (take("<")) {
                Tree right = sum(room);
                return n -> left.value(n) < right.value(n) ? 1 : 0;
            }
            if (take("=")) {
                Tree right = sum(room);
                return n -> left.value(n) == right.value(n) ? 1 : 0;
            }
            return left;
        }

        private Tree sum(int room) {
            Tree left = term(room);
            while (true) {
                Tree a = left;
                if (take("+")) {
                    Tree b = term(room);
                    left = n -> a.value(n) + b.value(n);
                } else if (take("-")) {
                    Tree b = term(room);
                    left = n -> a.value(n) - b.value(n);
                } else {
                    return left;
                }
            }
        }

        private Tree term(int room) {
            Tree left = one(room);
            while (take("*")) {
                Tree a = left;
                Tree b = one(room);
                left = n -> a.value(n) * b.value(n);
            }
            return left;
        }

        private Tree one(int room) {
            String token = peek();
            if (token.equals("-")) {
                mustHave(room);
                must("-");
                Tree of = one(room - 1);
                return n -> -of.value(n);
            }
            if (token.equals("(")) {
                mustHave(room);
                must("(");
                Tree of = or(room - 1);
                must(")");
                return of;
            }
            if (token.matches("[0-9]+")) {
                must(token);
                return n -> Integer.parseInt(token);
            }
            if (token.matches("rain|hour|number|done|street|west")) {
                must(token);
                return n -> n.of(token);
            }
            throw new Fault(at);
        }
    }

    private int[][] rain = new int[2][24];
    private int west;
    private List<Bargain> list = new ArrayList<>();
    private final StringBuilder tape = new StringBuilder();
    private final List<Text> texts = new ArrayList<>();
    private int rule;
    private Model kept;
    private final int[][] sheets = new int[4][];
    private final int[] sorts = {-1, -1, -1, -1};

    Model() {
        texts.add(new TextReader("needs 2 ; takes 2 ; value 20 - hour ;").read());
    }

    private Model(Model other) {
        keep(other);
    }

    private void keep(Model other) {
        rain = new int[][] {other.rain[0].clone(), other.rain[1].clone()};
        west = other.west;
        rule = other.rule;
        list = new ArrayList<>();
        for (Bargain b : other.list) {
            list.add(new Bargain(b.kind, b.number, b.street, b.shaken));
        }
    }

    private static boolean in(int v, int least, int most) {
        return least <= v && v <= most;
    }

    private static int clamp(int v, int least, int most) {
        return Math.max(least, Math.min(most, v));
    }

    // ---- what a bargain is by the rule

    private Names names(Bargain b, int[][] sky, int hour, int done) {
        return new Names(sky[b.street][hour], hour, b.number, done, b.street, west);
    }

    private int needs(Bargain b, int[][] sky, int h, int done) {
        int v = clamp(texts.get(rule).needs.value(names(b, sky, h, done)), 0, 9);
        int[] byKind = {v, v / 2, v + 2, v / 2, v + 2 + b.number / 3, 1};
        return clamp(byKind[b.kind], 1, 9);
    }

    private int takes(Bargain b, int[][] sky, int h, int done) {
        int v = clamp(texts.get(rule).takes.value(names(b, sky, h, done)), 0, 24);
        int[] byKind = {v, v - 1, 2 * v, v - 1 + b.number % 3, 2 * v, 1};
        return clamp(byKind[b.kind], 1, 24);
    }

    private int worth(Bargain b, int[][] sky, int h, int done) {
        int v = clamp(texts.get(rule).value.value(names(b, sky, h, done)), 0, 99);
        int[] byKind = {v, v, v + 10, v - 2 * h, h >= 12 ? 2 * (v + 10) : v + 10, h < 3 ? b.number : 0};
        return clamp(byKind[b.kind], 0, 999);
    }

    private boolean holds(Bargain b, int[][] sky, int h, int done) {
        int behind = h + takes(b, sky, h, done);
        if (behind > 24) {
            return false;
        }
        for (int i = h; i < behind; i++) {
            if (sky[b.street][i] < needs(b, sky, h, done)) {
                return false;
            }
        }
        return true;
    }

    private int dealt(Bargain b, int[][] sky, int from, int done) {
        for (int h = from; h < 24; h++) {
            if (holds(b, sky, h, done)) {
                return h + takes(b, sky, h, done) - 1;
            }
        }
        return -1;
    }

    private int shakenNow() {
        int n = 0;
        for (Bargain b : list) {
            n += b.shaken;
        }
        return n;
    }

    private List<Integer> left() {
        List<Integer> all = new ArrayList<>();
        for (int i = 0; i < list.size(); i++) {
            if (list.get(i).shaken == 0) {
                all.add(i);
            }
        }
        return all;
    }

    /** GAIN, how many, last HOUR, left out (bits), dealt (bits). */
    private int[] tourOf(List<Integer> order, int[][] sky) {
        int[] out = {0, 0, -1, 0, 0};
        for (int i : order) {
            int done = shakenNow() + out[1];
            int hour = dealt(list.get(i), sky, out[2] + 1, done);
            if (hour < 0) {
                out[3] += 1 << i;
            } else {
                out[0] += worth(list.get(i), sky, hour, done);
                out[1]++;
                out[2] = hour;
                out[4] += 1 << i;
            }
        }
        return out;
    }

    private void allTours(List<Integer> from, List<Integer> sofar, int room, List<List<Integer>> out) {
        out.add(new ArrayList<>(sofar));
        if (room == 0) {
            return;
        }
        for (int i : from) {
            if (!sofar.contains(i)) {
                sofar.add(i);
                allTours(from, sofar, room - 1, out);
                sofar.remove(sofar.size() - 1);
            }
        }
    }

    /** The most GAIN, and the digits of the first tour of it. */
    private int[] bestOf(List<Integer> among, int n, int[][] sky) {
        List<List<Integer>> tours = new ArrayList<>();
        allTours(among, new ArrayList<>(), n, tours);
        int[] best = {-1, 0};
        for (List<Integer> tour : tours) {
            int gain = tourOf(tour, sky)[0];
            if (gain > best[0]) {
                best[0] = gain;
                best[1] = 0;
                for (int i : tour) {
                    best[1] = 10 * best[1] + 1 + i;
                }
            }
        }
        return best;
    }

    // ---- the calls

    int set(int what, int of, int v) {
        int was = what == 5 ? BAD : told(of, what);
        if (was < 0 || v < 0 || v > (what < 3 ? 9 : 1)) {
            return BAD;
        }
        switch (what) {
            case 0 -> west = v;
            case 1 -> rain[of / 100][of % 100] = v;
            case 2 -> list.get(of).number = v;
            case 3 -> list.get(of).street = v;
            default -> list.get(of).shaken = v;
        }
        return was;
    }

    int bargain(int kind, int number, int street) {
        if (!in(kind, 0, 5) || !in(number, 0, 9) || !in(street, 0, 1)) {
            return BAD;
        }
        if (list.size() == 6) {
            return -4;
        }
        list.add(new Bargain(kind, number, street, 0));
        return list.size() - 1;
    }

    int told(int of, int what) {
        if (what == 0) {
            return west;
        }
        if (what == 1) {
            return in(of, 0, 23) ? rain[0][of] : in(of, 100, 123) ? rain[1][of - 100] : BAD;
        }
        if (!in(what, 2, 5) || !in(of, 0, list.size() - 1)) {
            return BAD;
        }
        Bargain b = list.get(of);
        return new int[] {b.number, b.street, b.shaken, b.kind}[what - 2];
    }

    int asks(int bargain, int hour, int what) {
        if (!in(bargain, 0, list.size() - 1) || !in(hour, 0, 23) || !in(what, 0, 4)) {
            return BAD;
        }
        Bargain b = list.get(bargain);
        int done = shakenNow();
        return switch (what) {
            case 0 -> needs(b, rain, hour, done);
            case 1 -> takes(b, rain, hour, done);
            case 2 -> holds(b, rain, hour, done) ? 1 : 0;
            case 3 -> worth(b, rain, hour, done);
            default -> dealt(b, rain, hour, done);
        };
    }

    int feed(int letter) {
        if (!in(letter, 0, 255)) {
            return BAD;
        }
        if (tape.length() == 160) {
            return -4;
        }
        return tape.append((char) letter).length();
    }

    int text() {
        if (texts.size() == 6) {
            return -4;
        }
        String was = tape.toString();
        tape.setLength(0);
        try {
            texts.add(new TextReader(was).read());
            return texts.size() - 1;
        } catch (Fault fault) {
            return -100 - fault.place;
        }
    }

    int force(int text) {
        if (!in(text, 0, texts.size() - 1)) {
            return BAD;
        }
        int was = rule;
        rule = text;
        return was;
    }

    private List<Integer> sheetTour(int sheet) {
        List<Integer> order = new ArrayList<>();
        for (int i : sheets[sheet]) {
            if (!left().contains(i) || order.contains(i)) {
                return null;
            }
            order.add(i);
        }
        return order;
    }

    private int tourRefusal(int sheet) {
        if (!in(sheet, 0, 3)) {
            return BAD;
        }
        if (sheets[sheet] == null) {
            return -11;
        }
        return sheetTour(sheet) == null ? BAD : 0;
    }

    int tour(int sheet, int what) {
        if (!in(what, 0, 3)) {
            return BAD;
        }
        int refusal = tourRefusal(sheet);
        return refusal != 0 ? refusal : tourOf(sheetTour(sheet), rain)[what];
    }

    int deal(int sheet) {
        int refusal = tourRefusal(sheet);
        if (refusal != 0) {
            return refusal;
        }
        int[] went = tourOf(sheetTour(sheet), rain);
        for (int i = 0; i < list.size(); i++) {
            list.get(i).shaken |= went[4] >> i & 1;
        }
        return went[0];
    }

    int best(int what) {
        if (!in(what, 0, 3)) {
            return BAD;
        }
        int[] best = bestOf(left(), 6, rain);
        if (what != 2) {
            return what == 0 ? best[1] : best[0];
        }
        for (int i : left()) {
            List<Integer> others = left();
            others.remove(Integer.valueOf(i));
            if (bestOf(others, 6, rain)[0] >= best[0]) {
                return i;
            }
        }
        return -1;
    }

    int few(int n) {
        return in(n, 0, 6) ? bestOf(left(), n, rain)[0] : BAD;
    }

    int water(int what) {
        if (!in(what, 0, 1)) {
            return BAD;
        }
        if (left().size() > 4) {
            return -3;
        }
        int gain = bestOf(left(), 6, rain)[0];
        int place = -1;
        for (int i = 0; i < 48; i++) {
            int[][] sky = {rain[0].clone(), rain[1].clone()};
            sky[i / 24][i % 24] = 9;
            int then = bestOf(left(), 6, sky)[0];
            if (then > gain) {
                gain = then;
                place = i / 24 * 100 + i % 24;
            }
        }
        return what == 0 ? place : gain;
    }

    int sky(int street, int what) {
        if (!in(street, 0, 1) || !in(what, 0, 4)) {
            return BAD;
        }
        int length = 0, start = -1, wet = 0, all = 0, shut = 0;
        for (int from = 0; from < 24; from++) {
            int to = from;
            while (to < 24 && rain[street][to] > 0) {
                to++;
            }
            if (to - from > length) {
                length = to - from;
                start = from;
            }
            wet += rain[street][from] > 0 ? 1 : 0;
            all += rain[street][from];
            shut += rain[0][from] + rain[1][from] == 0 ? 1 << from : 0;
        }
        return new int[] {length, start, wet, all, shut}[what];
    }

    private int firstOther(int[] row, Bargain b, int[][] sky, int done) {
        for (int h = 0; h < row.length; h++) {
            if (row[h] != worth(b, sky, h, done)) {
                return h;
            }
        }
        return -1;
    }

    int tells(int sheet, int bargain, int what) {
        if (!in(sheet, 0, 3) || !in(bargain, 0, list.size() - 1) || !in(what, 0, 5) && !in(what, 10, 33)) {
            return BAD;
        }
        int[] row = sheets[sheet];
        if (row == null) {
            return -11;
        }
        if (row.length > 24) {
            return BAD;
        }
        Bargain b = list.get(bargain);
        int done = shakenNow();
        if (what == 0) {
            return firstOther(row, b, rain, done);
        }
        int bits = 0;
        int wasWest = west, wasRule = rule;
        int most = new int[] {5, 9, 9, 6, texts.size() - 1, 9}[Math.min(what, 6) - 1];
        for (int c = 0; c <= most; c++) {
            Bargain other = new Bargain(what == 1 ? c : b.kind, what == 2 ? c : b.number, b.street, b.shaken);
            int[][] sky = {rain[0].clone(), rain[1].clone()};
            west = what == 3 ? c : wasWest;
            rule = what == 5 ? c : wasRule;
            if (what >= 10) {
                sky[b.street][what - 10] = c;
            }
            bits += firstOther(row, other, sky, what == 4 ? c : done) < 0 ? 1 << c : 0;
        }
        west = wasWest;
        rule = wasRule;
        return bits;
    }

    int film(int sheet, int bargain, int n) {
        if (!in(sheet, 0, 3) || !in(bargain, 0, list.size() - 1) || !in(n, 0, 24)) {
            return BAD;
        }
        sheets[sheet] = new int[n];
        sorts[sheet] = 1;
        for (int h = 0; h < n; h++) {
            sheets[sheet][h] = worth(list.get(bargain), rain, h, shakenNow());
        }
        return n;
    }

    int drawn(int seed) {
        int[][] sky = new int[2][24];
        int z = seed;
        for (int i = 0; i < 48; i++) {
            z = z * 1103515245 + 12345;
            int d = (z >>> 9) % 10;
            sky[i / 24][i % 24] = d < 4 ? 0 : d;
        }
        return tourOf(left(), sky)[0];
    }

    long chance(int seed, int m, int k, int part) {
        if (!in(m, 1, 20) || !in(k, 0, 9999) || !in(part, 0, 1)) {
            return NO;
        }
        int above = 0;
        for (int i = 0; i < m; i++) {
            above += drawn(seed + i) >= k ? 1 : 0;
        }
        for (int d = m; ; d--) {
            if (above % d == 0 && m % d == 0) {
                return part == 0 ? above / d : m / d;
            }
        }
    }

    int image() {
        kept = new Model(this);
        return list.size();
    }

    int back() {
        if (kept == null) {
            return -3;
        }
        keep(kept);
        return list.size();
    }

    int count(int what) {
        return switch (what) {
            case 0 -> list.size();
            case 1 -> shakenNow();
            case 2 -> sky(0, 2) + sky(1, 2);
            case 3 -> texts.size();
            case 4 -> tape.length();
            case 5 -> rule;
            default -> BAD;
        };
    }

    int sheet(int sheet, int sort, int n) {
        if (!in(sheet, 0, 3) || !in(sort, -1, 2) || sort >= 0 && n > 40) {
            return BAD;
        }
        if (sort >= 0 && n < 0) {
            return -14;
        }
        sorts[sheet] = sort;
        sheets[sheet] = sort < 0 ? null : new int[n];
        return 1;
    }

    int cell(int sheet, int i, int v) {
        if (!in(sheet, 0, 3)) {
            return BAD;
        }
        int[] row = sheets[sheet];
        if (row == null) {
            return -11;
        }
        if (!in(i, 0, row.length - 1)) {
            return -12;
        }
        row[i] = sorts[sheet] == 0 ? (byte) v : sorts[sheet] == 1 ? (short) v : v;
        return 1;
    }

    int copy(int sheet, int i, int other, int j, int n) {
        if (!in(sheet, 0, 3) || !in(other, 0, 3)) {
            return BAD;
        }
        if (sheets[sheet] == null || sheets[other] == null) {
            return -11;
        }
        if (sorts[sheet] != sorts[other]) {
            return -13;
        }
        if (n < 0 || i < 0 || j < 0 || (long) i + n > sheets[sheet].length || (long) j + n > sheets[other].length) {
            return -12;
        }
        int[] were = sheets[sheet].clone();
        for (int k = 0; k < n; k++) {
            sheets[other][j + k] = were[i + k];
        }
        return n;
    }

    int bargains(int sheet, int sort, int from, int n) {
        if (!in(sheet, 0, 3) || !in(sort, 0, 2) || !in(n, 0, 6)) {
            return BAD;
        }
        if (sheets[sheet] != null && sorts[sheet] != sort) {
            return -13;
        }
        if (sheets[sheet] == null) {
            return -11;
        }
        int came = 0;
        for (int k = 0; k < n; k++) {
            long i = from + 3L * k;
            if (i < 0 || i + 2 >= sheets[sheet].length) {
                return -12;
            }
            int[] row = sheets[sheet];
            came += bargain(row[(int) i], row[(int) i + 1], row[(int) i + 2]) >= 0 ? 1 : 0;
        }
        return came;
    }

    int taken(int bargain, int k) {
        if (!in(k, 0, 5)) {
            return BAD;
        }
        if (!in(bargain, 0, list.size() - 1)) {
            return -11;
        }
        String[] under = {"0", "01", "02", "013", "024", "05"};
        Bargain b = list.get(bargain);
        return under[b.kind].indexOf('0' + k) >= 0 ? b.number : -13;
    }
}
