import java.util.Arrays;

/** A market of two streets that is open just in the wet. What it must do stands in ../shared/DOC.md. */
public final class OpenWhileItRains {
    public static final int NONE = -1, BAD = -2, STATE = -3, FULL = -4;
    public static final long NO = -4611686018427387904L;

    private static final int NOTHING = -11, OUTSIDE = -12, UNLIKE = -13, BELOW_ZERO = -14;

    private static final int STREETS = 2, HOURS = 24, DIGITS = 10, MOST_RAIN = 9;
    private static final int MOST_BARGAINS = 6, MOST_TEXTS = 6, MOST_TAPE = 160;
    private static final int SHEETS = 4, MOST_ITEMS = 40;

    private static final int KINDS = 6;
    private static final int EGGS = 1, CATTLE = 2, CHEESE = 3, COW = 4, UMBRELLA = 5;
    private static final int[] UNDER = {NONE, 0, 0, EGGS, CATTLE, 0};

    private static final int WEST = 0, RAIN = 1, NUMBER = 2, STREET = 3, SHAKEN = 4, KIND = 5;
    private static final int[] MOST_SET = {9, MOST_RAIN, 9, STREETS - 1, 1};

    private static final int MISSING = -1, BYTES = 0, SHORTS = 1, INTS = 2;

    private static final int RAIN_NAME = 0, HOUR_NAME = 1, NUMBER_NAME = 2, DONE_NAME = 3, STREET_NAME = 4, WEST_NAME = 5;
    private static final int NAMES = 6;
    private static final int NEEDS_PART = 0, TAKES_PART = 1, VALUE_PART = 2, PARTS = 3;

    private static final String FIRST_TEXT = "needs 2 ; takes 2 ; value 20 - hour ;";
    private static final int FAULT_BASE = -100;
    private static final int MOST_SEEDS = 20, MOST_CHANCE_GAIN = 9999, MOST_WATERED = 4;
    private static final int FIRST_TOLD_HOUR = 10;

    private final Market market = new Market();
    private final Market kept = new Market();
    private boolean isKept;
    private final Reader reader = new Reader();
    private final Text[] texts = new Text[MOST_TEXTS];
    private int textCount;
    private final Row[] rows = new Row[SHEETS];
    private final Case one = new Case();
    private final Plan plan = new Plan();
    private final int[] guess = new int[STREETS * HOURS];

    public OpenWhileItRains() {
        for (int i = 0; i < rows.length; i++) {
            rows[i] = new Row();
        }
        for (int i = 0; i < FIRST_TEXT.length(); i++) {
            reader.append(FIRST_TEXT.charAt(i));
        }
        keepText(reader.read(0));
        market.rule = textAt(0);
    }

    // ---- rain, bargains

    public int set(int what, int of, int v) {
        if (what < 0 || what >= MOST_SET.length || v < 0 || v > MOST_SET[what]) {
            return BAD;
        }
        int was = told(of, what);
        if (was == BAD) {
            return BAD;
        }
        switch (what) {
            case WEST: market.west = v; break;
            case RAIN: put(market.rain, rainPlace(of), v); break;
            case NUMBER: put(market.numbers, of, v); break;
            case STREET: put(market.streets, of, v); break;
            default: put(market.shaken, of, v); break;
        }
        return was;
    }

    public int bargain(int kind, int number, int street) {
        if (kind < 0 || kind >= KINDS || number < 0 || number >= DIGITS || street < 0 || street >= STREETS) {
            return BAD;
        }
        return market.add(kind, number, street) ? market.size - 1 : FULL;
    }

    public int told(int of, int what) {
        if (what == WEST) {
            return market.west;
        }
        if (what == RAIN) {
            int place = rainPlace(of);
            return place == NONE ? BAD : at(market.rain, place);
        }
        if (!market.has(of)) {
            return BAD;
        }
        switch (what) {
            case NUMBER: return at(market.numbers, of);
            case STREET: return at(market.streets, of);
            case SHAKEN: return at(market.shaken, of);
            case KIND: return at(market.kinds, of);
            default: return BAD;
        }
    }

    public int asks(int bargain, int hour, int what) {
        if (!market.has(bargain) || hour < 0 || hour >= HOURS || what < 0 || what > 4) {
            return BAD;
        }
        one.regard(market, bargain, market.shakenCount());
        one.see(market.rain, hour);
        switch (what) {
            case 0: return one.needs();
            case 1: return one.takes();
            case 2: return one.lastHour(market.rain, hour) == NONE ? 0 : 1;
            case 3: return one.worth();
            default: return one.shakenHour(market.rain, hour);
        }
    }

    // ---- texts

    public int feed(int letter) {
        if (letter < 0 || letter > 255) {
            return BAD;
        }
        return reader.append(letter) ? reader.size : FULL;
    }

    public int text() {
        if (textCount >= texts.length) {
            return FULL;
        }
        Text read = reader.read(textCount);
        if (read == null) {
            return FAULT_BASE - reader.fault;
        }
        keepText(read);
        return read.number;
    }

    public int force(int text) {
        Text forced = textAt(text);
        if (forced == null) {
            return BAD;
        }
        int was = ruleNumber();
        market.rule = forced;
        return was;
    }

    // ---- tours

    public int tour(int sheet, int what) {
        if (what < 0 || what > 3) {
            return BAD;
        }
        Row row = rowAt(sheet);
        int refusal = tourRefusal(row);
        if (row == null || refusal != 0) {
            return refusal;
        }
        plan.useRain(market.rain);
        plan.run(market, row.items, row.size);
        switch (what) {
            case 0: return plan.gain;
            case 1: return Integer.bitCount(plan.dealt);
            case 2: return plan.last;
            default: return plan.leftOut;
        }
    }

    public int deal(int sheet) {
        Row row = rowAt(sheet);
        int refusal = tourRefusal(row);
        if (row == null || refusal != 0) {
            return refusal;
        }
        plan.useRain(market.rain);
        plan.run(market, row.items, row.size);
        for (int b = 0; b < market.shaken.length; b++) {
            if (hasBit(plan.dealt, b)) {
                market.shaken[b] = 1;
            }
        }
        return plan.gain;
    }

    // ---- what would be best

    public int best(int what) {
        if (what < 0 || what > 3) {
            return BAD;
        }
        plan.prepare(market);
        int most = plan.seek(plan.left, MOST_BARGAINS);
        switch (what) {
            case 0: return plan.order;
            case 2: return plan.leave(most);
            default: return most; // without LEAVE it is no less, and with fewer BARGAINS it is never more
        }
    }

    public int few(int n) {
        if (n < 0 || n > MOST_BARGAINS) {
            return BAD;
        }
        plan.prepare(market);
        return plan.seek(plan.left, n);
    }

    public int water(int what) {
        if (what < 0 || what > 1) {
            return BAD;
        }
        if (market.size - market.shakenCount() > MOST_WATERED) {
            return STATE;
        }
        plan.prepare(market);
        plan.waterAll(market);
        return what == 0 ? plan.wateredPlace : plan.wateredGain;
    }

    public int sky(int street, int what) {
        if (street < 0 || street >= STREETS || what < 0 || what > 4) {
            return BAD;
        }
        switch (what) {
            case 0: return market.showerLength(street);
            case 1: return market.showerStart(street);
            case 2: return market.wetHours(street);
            case 3: return market.allRain(street);
            default: return market.shutHours();
        }
    }

    // ---- bargains that were told

    public int tells(int sheet, int bargain, int what) {
        Row row = rowAt(sheet);
        if (row == null || !market.has(bargain) || !canTell(what)) {
            return BAD;
        }
        if (row.sort == MISSING) {
            return NOTHING;
        }
        if (row.size > HOURS) {
            return BAD;
        }
        if (what != 0) {
            return fitting(row, bargain, what);
        }
        one.regard(market, bargain, market.shakenCount());
        return one.firstOther(row, market.rain);
    }

    public int film(int sheet, int bargain, int n) {
        Row row = rowAt(sheet);
        if (row == null || !market.has(bargain) || n < 0 || n > HOURS) {
            return BAD;
        }
        row.renew(SHORTS, n);
        one.regard(market, bargain, market.shakenCount());
        for (int h = 0; h < n; h++) {
            one.see(market.rain, h);
            row.write(h, one.worth());
        }
        return n;
    }

    public int drawn(int seed) {
        plan.draw(seed);
        plan.run(market, plan.byNumbers, plan.lineUp(market));
        return plan.gain;
    }

    public long chance(int seed, int m, int k, int part) {
        if (m < 1 || m > MOST_SEEDS || k < 0 || k > MOST_CHANCE_GAIN || part < 0 || part > 1) {
            return NO;
        }
        int above = 0;
        for (int i = 0; i < m; i++) {
            plan.draw(seed + i);
            plan.run(market, plan.byNumbers, plan.lineUp(market));
            above += plan.gain >= k ? 1 : 0;
        }
        int common = commonDivisor(above, m);
        if (common < 1) {
            return NO;
        }
        return part == 0 ? above / common : m / common;
    }

    public int image() {
        kept.become(market);
        isKept = true;
        return market.size;
    }

    public int back() {
        if (!isKept) {
            return STATE;
        }
        market.become(kept);
        return market.size;
    }

    public int count(int what) {
        switch (what) {
            case 0: return market.size;
            case 1: return market.shakenCount();
            case 2: return market.wetHours(0) + market.wetHours(1);
            case 3: return textCount;
            case 4: return reader.size;
            case 5: return ruleNumber();
            default: return BAD;
        }
    }

    // ---- the host

    public int sheet(int sheet, int sort, int n) {
        Row row = rowAt(sheet);
        if (row == null || sort < MISSING || sort > INTS) {
            return BAD;
        }
        if (sort == MISSING) {
            row.renew(MISSING, 0);
            return 1;
        }
        if (n > MOST_ITEMS) {
            return BAD;
        }
        if (n < 0) {
            return BELOW_ZERO;
        }
        row.renew(sort, n);
        return 1;
    }

    public int cell(int sheet, int i, int v) {
        Row row = rowAt(sheet);
        if (row == null) {
            return BAD;
        }
        if (row.sort == MISSING) {
            return NOTHING;
        }
        return row.write(i, v) ? 1 : OUTSIDE;
    }

    public int copy(int sheet, int i, int other, int j, int n) {
        Row from = rowAt(sheet);
        Row to = rowAt(other);
        if (from == null || to == null) {
            return BAD;
        }
        if (from.sort == MISSING || to.sort == MISSING) {
            return NOTHING;
        }
        if (from.sort != to.sort) {
            return UNLIKE;
        }
        if (!from.spans(i, n) || !to.spans(j, n)) {
            return OUTSIDE;
        }
        System.arraycopy(from.items, i, to.items, j, n);
        return n;
    }

    public int bargains(int sheet, int sort, int from, int n) {
        Row row = rowAt(sheet);
        if (row == null || sort < BYTES || sort > INTS || n < 0 || n > MOST_BARGAINS) {
            return BAD;
        }
        if (row.sort == MISSING) {
            return NOTHING;
        }
        if (row.sort != sort) {
            return UNLIKE;
        }
        int came = 0;
        for (int k = 0; k < n; k++) {
            int i = from + 3 * k;
            if (!row.spans(i, 3)) {
                return OUTSIDE;
            }
            if (bargain(row.read(i), row.read(i + 1), row.read(i + 2)) >= 0) {
                came++;
            }
        }
        return came;
    }

    public int taken(int bargain, int k) {
        if (k < 0 || k >= KINDS) {
            return BAD;
        }
        if (!market.has(bargain)) {
            return NOTHING;
        }
        return Kinds.isUnder(at(market.kinds, bargain), k) ? at(market.numbers, bargain) : UNLIKE;
    }

    // ---- helpers of the calls

    private Row rowAt(int sheet) {
        return sheet >= 0 && sheet < rows.length ? rows[sheet] : null;
    }

    private Text textAt(int number) {
        return number >= 0 && number < textCount && number < texts.length ? texts[number] : null;
    }

    private void keepText(Text text) {
        if (text != null && textCount < texts.length) {
            texts[textCount] = text;
            textCount++;
        }
    }

    private int ruleNumber() {
        return market.rule == null ? 0 : market.rule.number;
    }

    /** The refusal of a SHEET that is to tell a TOUR; 0 if it tells one. */
    private int tourRefusal(Row row) {
        if (row == null) {
            return BAD;
        }
        if (row.sort == MISSING) {
            return NOTHING;
        }
        int came = 0;
        for (int i = 0; i < row.size; i++) {
            int b = row.read(i);
            if (!market.has(b) || at(market.shaken, b) != 0 || hasBit(came, b)) {
                return BAD;
            }
            came |= 1 << b;
        }
        return 0;
    }

    private boolean canTell(int what) {
        return what >= 0 && what <= 5 || what >= FIRST_TOLD_HOUR && what < FIRST_TOLD_HOUR + HOURS;
    }

    /** Which of what could be, one thing being otherwise, a SHEET fits (bits). */
    private int fitting(Row row, int bargain, int what) {
        System.arraycopy(market.rain, 0, guess, 0, guess.length);
        int choices = choicesOf(what);
        int bits = 0;
        for (int c = 0; c < choices; c++) {
            one.regard(market, bargain, market.shakenCount());
            suppose(bargain, what, c);
            if (one.firstOther(row, guess) == NONE) {
                bits |= 1 << c;
            }
        }
        return bits;
    }

    private int choicesOf(int what) {
        switch (what) {
            case 1: return KINDS;
            case 4: return MOST_BARGAINS + 1;
            case 5: return textCount;
            default: return DIGITS;
        }
    }

    private void suppose(int bargain, int what, int choice) {
        switch (what) {
            case 1: one.kind = choice; break;
            case 2: put(one.names, NUMBER_NAME, choice); break;
            case 3: put(one.names, WEST_NAME, choice); break;
            case 4: put(one.names, DONE_NAME, choice); break;
            case 5: one.rule = textAt(choice); break;
            default: put(guess, at(market.streets, bargain) * HOURS + what - FIRST_TOLD_HOUR, choice); break;
        }
    }

    private static int rainPlace(int of) {
        int street = of / 100;
        int hour = of % 100;
        return of < 0 || street >= STREETS || hour >= HOURS ? NONE : street * HOURS + hour;
    }

    private static int commonDivisor(int a, int b) {
        int high = b;
        int low = a;
        // a row of Fibonacci numbers takes the most steps, and 50 of them go beyond an int
        for (int i = 0; i < 50 && low != 0; i++) {
            int rest = high % low;
            high = low;
            low = rest;
        }
        return high;
    }

    private static int at(int[] row, int i) {
        return row != null && i >= 0 && i < row.length ? row[i] : 0;
    }

    private static void put(int[] row, int i, int v) {
        if (row != null && i >= 0 && i < row.length) {
            row[i] = v;
        }
    }

    private static boolean hasBit(int bits, int i) {
        return i >= 0 && i < 31 && (bits >> i & 1) != 0;
    }

    private static int bound(int v, int least, int most) {
        return v < least ? least : v > most ? most : v;
    }

    /** All that an image keeps: rain, sky, bargains, the rule. */
    private static final class Market {
        final int[] rain = new int[STREETS * HOURS];
        final int[] kinds = new int[MOST_BARGAINS];
        final int[] numbers = new int[MOST_BARGAINS];
        final int[] streets = new int[MOST_BARGAINS];
        final int[] shaken = new int[MOST_BARGAINS];
        int west;
        int size;
        Text rule;

        void become(Market other) {
            if (other == null) {
                return;
            }
            System.arraycopy(other.rain, 0, rain, 0, rain.length);
            System.arraycopy(other.kinds, 0, kinds, 0, kinds.length);
            System.arraycopy(other.numbers, 0, numbers, 0, numbers.length);
            System.arraycopy(other.streets, 0, streets, 0, streets.length);
            System.arraycopy(other.shaken, 0, shaken, 0, shaken.length);
            west = other.west;
            size = other.size;
            rule = other.rule;
        }

        boolean has(int bargain) {
            return bargain >= 0 && bargain < size;
        }

        boolean add(int kind, int number, int street) {
            if (size >= MOST_BARGAINS) {
                return false;
            }
            put(kinds, size, kind);
            put(numbers, size, number);
            put(streets, size, street);
            put(shaken, size, 0);
            size++;
            return true;
        }

        int shakenCount() {
            int n = 0;
            for (int b = 0; b < size; b++) {
                n += at(shaken, b);
            }
            return n;
        }

        /** Those that aren't SHAKEN on (bits). */
        int unshaken() {
            int bits = 0;
            for (int b = 0; b < size; b++) {
                bits |= at(shaken, b) == 0 ? 1 << b : 0;
            }
            return bits;
        }

        int inStreet(int street) {
            int bits = 0;
            for (int b = 0; b < size; b++) {
                bits |= at(streets, b) == street ? 1 << b : 0;
            }
            return bits;
        }

        int showerLength(int street) {
            int most = 0;
            int wet = 0;
            for (int h = 0; h < HOURS; h++) {
                wet = rainAt(street, h) > 0 ? wet + 1 : 0;
                most = wet > most ? wet : most;
            }
            return most;
        }

        int showerStart(int street) {
            int most = showerLength(street);
            int wet = 0;
            for (int h = 0; h < HOURS; h++) {
                wet = rainAt(street, h) > 0 ? wet + 1 : 0;
                if (wet > 0 && wet == most) {
                    return h - most + 1;
                }
            }
            return NONE;
        }

        int wetHours(int street) {
            int n = 0;
            for (int h = 0; h < HOURS; h++) {
                n += rainAt(street, h) > 0 ? 1 : 0;
            }
            return n;
        }

        int allRain(int street) {
            int sum = 0;
            for (int h = 0; h < HOURS; h++) {
                sum += rainAt(street, h);
            }
            return sum;
        }

        int shutHours() {
            int bits = 0;
            for (int h = 0; h < HOURS; h++) {
                bits |= rainAt(0, h) == 0 && rainAt(1, h) == 0 ? 1 << h : 0;
            }
            return bits;
        }

        private int rainAt(int street, int hour) {
            return at(rain, street * HOURS + hour);
        }
    }

    /** What the kinds make of what a text tells; the bounds are put on by those who ask. */
    private static final class Kinds {
        private Kinds() {
        }

        static int needs(int kind, int v, int number) {
            switch (kind) {
                case EGGS:
                case CHEESE: return v / 2;
                case CATTLE: return v + 2;
                case COW: return v + 2 + number / 3;
                case UMBRELLA: return 1;
                default: return v;
            }
        }

        static int takes(int kind, int v, int number) {
            switch (kind) {
                case EGGS: return v - 1;
                case CHEESE: return v - 1 + number % 3;
                case CATTLE:
                case COW: return v * 2;
                case UMBRELLA: return 1;
                default: return v;
            }
        }

        static int worth(int kind, int v, int number, int hour) {
            switch (kind) {
                case CATTLE: return v + 10;
                case CHEESE: return v - hour * 2;
                case COW: return hour >= 12 ? (v + 10) * 2 : v + 10;
                case UMBRELLA: return hour < 3 ? number : 0;
                default: return v;
            }
        }

        static boolean isUnder(int kind, int above) {
            int k = kind;
            for (int i = 0; i < KINDS && k >= 0 && k < UNDER.length; i++) {
                if (k == above) {
                    return true;
                }
                k = UNDER[k];
            }
            return false;
        }
    }

    /** One bargain by one rule, as it is or as it could be, in the hour that was seen last. */
    private static final class Case {
        final int[] names = new int[NAMES];
        int kind;
        Text rule;
        private int street;

        void regard(Market market, int bargain, int done) {
            if (market == null) {
                return;
            }
            kind = at(market.kinds, bargain);
            rule = market.rule;
            street = at(market.streets, bargain);
            put(names, NUMBER_NAME, at(market.numbers, bargain));
            put(names, DONE_NAME, done);
            put(names, STREET_NAME, street);
            put(names, WEST_NAME, market.west);
        }

        void see(int[] rain, int hour) {
            put(names, RAIN_NAME, rainIn(rain, hour));
            put(names, HOUR_NAME, hour);
        }

        int needs() {
            int v = rule == null ? 0 : bound(rule.tell(NEEDS_PART, names), 0, 9);
            return bound(Kinds.needs(kind, v, at(names, NUMBER_NAME)), 1, 9);
        }

        int takes() {
            int v = rule == null ? 0 : bound(rule.tell(TAKES_PART, names), 0, 24);
            return bound(Kinds.takes(kind, v, at(names, NUMBER_NAME)), 1, 24);
        }

        int worth() {
            int v = rule == null ? 0 : bound(rule.tell(VALUE_PART, names), 0, 99);
            return bound(Kinds.worth(kind, v, at(names, NUMBER_NAME), at(names, HOUR_NAME)), 0, 999);
        }

        /** The last HOUR of it, if it HOLDS, begun in an HOUR; else NONE. */
        int lastHour(int[] rain, int begun) {
            // nothing NEEDS less than 1, so that a text need not be asked in the dry
            if (rainIn(rain, begun) == 0) {
                return NONE;
            }
            see(rain, begun);
            return lastHeld(rain, begun, needs(), takes());
        }

        /** The last of so many HOURS from one on, if it rains so much in all of them; else NONE. */
        int lastHeld(int[] rain, int begun, int needed, int taken) {
            int last = begun + taken - 1;
            if (last >= HOURS) {
                return NONE;
            }
            for (int h = begun; h <= last; h++) {
                if (rainIn(rain, h) < needed) {
                    return NONE;
                }
            }
            return last;
        }

        /** In which HOUR hands are shaken, DEALT from an HOUR on; NONE. */
        int shakenHour(int[] rain, int from) {
            for (int h = from; h < HOURS; h++) {
                int last = lastHour(rain, h);
                if (last != NONE) {
                    return last;
                }
            }
            return NONE;
        }

        /** The first HOUR of which a row tells another WORTH; NONE. */
        int firstOther(Row row, int[] rain) {
            if (row == null) {
                return NONE;
            }
            for (int h = 0; h < row.size; h++) {
                see(rain, h);
                if (row.read(h) != worth()) {
                    return h;
                }
            }
            return NONE;
        }

        private int rainIn(int[] rain, int hour) {
            int place = street * HOURS + hour;
            return rain != null && hour >= 0 && hour < HOURS && place >= 0 && place < rain.length ? rain[place] : 0;
        }
    }

    /** Tours in some rain: how one goes, and which is best. */
    private static final class Plan {
        private static final int ENTRIES = MOST_BARGAINS * MOST_BARGAINS * HOURS;

        private final Case one = new Case();
        private final int[] rain = new int[STREETS * HOURS];
        final int[] byNumbers = new int[MOST_BARGAINS];
        // how a tour went
        int gain;
        int dealt;
        int last;
        int leftOut;
        // by BARGAIN, done and HOUR: what the rule makes of it, and when hands are shaken, DEALT from then on;
        // kept, as a search asks for the same ones over and over
        private final int[] needs = new int[ENTRIES];
        private final int[] takes = new int[ENTRIES];
        private final int[] worths = new int[ENTRIES];
        private final int[] ends = new int[ENTRIES];
        // what was sought
        int left;
        private int done;
        private int most;
        int order;
        int wateredPlace;
        int wateredGain;

        void useRain(int[] given) {
            if (given != null && given.length == rain.length) {
                System.arraycopy(given, 0, rain, 0, rain.length);
            }
        }

        void draw(int seed) {
            int z = seed;
            for (int i = 0; i < rain.length; i++) {
                z = z * 1103515245 + 12345;
                int much = (z >>> 9) % 10;
                rain[i] = much < 4 ? 0 : much;
            }
        }

        void run(Market market, int[] sequence, int n) {
            gain = 0;
            dealt = 0;
            last = NONE;
            leftOut = 0;
            int ahead = market == null ? 0 : market.shakenCount();
            for (int i = 0; i < n && i < MOST_BARGAINS; i++) {
                int b = at(sequence, i);
                one.regard(market, b, ahead + Integer.bitCount(dealt));
                int end = one.shakenHour(rain, last + 1);
                if (end == NONE) {
                    leftOut |= 1 << b;
                } else {
                    one.see(rain, end);
                    gain += one.worth();
                    dealt |= 1 << b;
                    last = end;
                }
            }
        }

        /** Puts all that aren't SHAKEN on in a row by their numbers: how many. */
        int lineUp(Market market) {
            int all = market == null ? 0 : market.unshaken();
            int n = 0;
            for (int b = 0; b < MOST_BARGAINS; b++) {
                if (hasBit(all, b)) {
                    put(byNumbers, n, b);
                    n++;
                }
            }
            return n;
        }

        /** Makes it ready for seeking in the true rain. */
        void prepare(Market market) {
            if (market == null) {
                return;
            }
            useRain(market.rain);
            left = market.unshaken();
            done = market.shakenCount();
            for (int h = 0; h < HOURS; h++) {
                learn(market, left, h);
            }
            fillEnds(market, left);
        }

        /** The most GAIN of tours of some (bits), so many of them or fewer; which it is, is the order then. */
        int seek(int among, int atMost) {
            most = 0;
            order = 0;
            walk(among, atMost, NONE, 0, 0, 0);
            return most;
        }

        int leave(int gainOfAll) {
            for (int b = 0; b < MOST_BARGAINS; b++) {
                if (hasBit(left, b) && seek(left & ~(1 << b), MOST_BARGAINS) >= gainOfAll) {
                    return b;
                }
            }
            return NONE;
        }

        void waterAll(Market market) {
            wateredPlace = NONE;
            wateredGain = seek(left, MOST_BARGAINS);
            for (int street = 0; street < STREETS; street++) {
                int wetted = market == null ? 0 : left & market.inStreet(street);
                for (int h = 0; h < HOURS && wetted != 0; h++) {
                    waterOne(market, wetted, street, h);
                }
                fillEnds(market, wetted);
            }
        }

        private void waterOne(Market market, int wetted, int street, int hour) {
            int was = at(rain, street * HOURS + hour);
            put(rain, street * HOURS + hour, MOST_RAIN);
            learn(market, wetted, hour);
            fillEnds(market, wetted);
            int then = seek(left, MOST_BARGAINS);
            if (then > wateredGain) {
                wateredGain = then;
                wateredPlace = 100 * street + hour;
            }
            put(rain, street * HOURS + hour, was);
            learn(market, wetted, hour);
        }

        /** What the rule makes of some (bits) in an HOUR, with as many done as can be in a tour. */
        private void learn(Market market, int some, int hour) {
            int behind = done + Integer.bitCount(left);
            for (int b = 0; b < MOST_BARGAINS; b++) {
                for (int d = done; d < behind && hasBit(some, b); d++) {
                    int entry = entry(b, d, hour);
                    one.regard(market, b, d);
                    one.see(rain, hour);
                    put(needs, entry, one.needs());
                    put(takes, entry, one.takes());
                    put(worths, entry, one.worth());
                }
            }
        }

        private void fillEnds(Market market, int some) {
            int behind = done + Integer.bitCount(left);
            for (int b = 0; b < MOST_BARGAINS; b++) {
                for (int d = done; d < behind && hasBit(some, b); d++) {
                    one.regard(market, b, d);
                    fillRow(entry(b, d, 0));
                }
            }
        }

        private void fillRow(int first) {
            int end = NONE;
            for (int h = HOURS - 1; h >= 0; h--) {
                int held = one.lastHeld(rain, h, at(needs, first + h), at(takes, first + h));
                end = held == NONE ? end : held;
                put(ends, first + h, end);
            }
        }

        /** Looks at a tour, then at all that go on from it; so the first of like ones stays. */
        private void walk(int among, int room, int lastShaken, int came, int gained, int digits) {
            if (gained > most) {
                most = gained;
                order = digits;
            }
            // behind the last HOUR nothing is DEALT, so that no tour can gain more
            if (room <= 0 || lastShaken >= HOURS - 1) {
                return;
            }
            for (int b = 0; b < MOST_BARGAINS; b++) {
                if (hasBit(among, b)) {
                    int rest = among & ~(1 << b);
                    int more = digits * 10 + b + 1;
                    int end = at(ends, entry(b, done + came, lastShaken + 1));
                    if (end == NONE) {
                        walk(rest, room - 1, lastShaken, came, gained, more);
                    } else {
                        int worth = at(worths, entry(b, done + came, end));
                        walk(rest, room - 1, end, came + 1, gained + worth, more);
                    }
                }
            }
        }

        private int entry(int bargain, int ahead, int hour) {
            return (bargain * MOST_BARGAINS + ahead) * HOURS + hour;
        }
    }

    /** A SHEET: its numbers are held as ints that its sort can hold. */
    private static final class Row {
        final int[] items = new int[MOST_ITEMS];
        int sort = MISSING;
        int size;

        void renew(int newSort, int n) {
            sort = newSort;
            size = bound(n, 0, items.length);
            Arrays.fill(items, 0);
        }

        int read(int i) {
            return at(items, i);
        }

        boolean write(int i, int v) {
            if (i < 0 || i >= size || i >= items.length) {
                return false;
            }
            items[i] = sort == BYTES ? (byte) v : sort == SHORTS ? (short) v : v;
            return true;
        }

        /** Whether n items stand from item i on. */
        boolean spans(int i, int n) {
            return i >= 0 && n >= 0 && i <= size && n <= size - i;
        }
    }

    /** A TEXT, its signs put behind what they join, so that it tells in one pass. */
    private static final class Text {
        static final int END_OF_PART = -';', NEGATE = -9, FIRST_NAME = -100;

        final int number;
        private final int[] code;
        private final int[] starts;
        private final int[] stack = new int[MOST_TAPE];

        Text(int number, int[] code, int[] starts) {
            this.number = number;
            this.code = code;
            this.starts = starts;
        }

        int tell(int part, int[] names) {
            int top = 0;
            if (code == null || names == null) {
                return 0;
            }
            for (int i = at(starts, part); i >= 0 && i < code.length && code[i] != END_OF_PART; i++) {
                int op = code[i];
                if (op >= 0) {
                    put(stack, top, op);
                    top++;
                } else if (op <= FIRST_NAME) {
                    put(stack, top, at(names, FIRST_NAME - op));
                    top++;
                } else if (op == NEGATE) {
                    put(stack, top - 1, -at(stack, top - 1));
                } else if (op == -Reader.NOT) {
                    put(stack, top - 1, at(stack, top - 1) == 0 ? 1 : 0);
                } else {
                    put(stack, top - 2, joined(-op, at(stack, top - 2), at(stack, top - 1)));
                    top--;
                }
            }
            return at(stack, 0);
        }

        private static int joined(int sign, int a, int b) {
            switch (sign) {
                case '*': return a * b;
                case '+': return a + b;
                case '-': return a - b;
                case '<': return a < b ? 1 : 0;
                case '=': return a == b ? 1 : 0;
                case Reader.AND: return a != 0 && b != 0 ? 1 : 0;
                default: return a != 0 || b != 0 ? 1 : 0;
            }
        }
    }

    /** The tape, and the reading of it. */
    private static final class Reader {
        private static final int END = 0, NUMBER_TOKEN = 1, NAME_TOKEN = 2, NEEDS = 3, OR = 6;
        static final int AND = 7, NOT = 8;
        private static final int FAULTY = -1;
        private static final int MOST_DIGITS = 4, MOST_OPEN = 5, WORD_ROOM = 6;
        // the NAMES, then the KEYS, each in a room of six
        private static final String WORDS =
            "rain  hour  numberdone  streetwest  needs takes value or    and   not   ";

        int size;
        int fault;
        private final int[] tape = new int[MOST_TAPE];
        private final int[] tokens = new int[MOST_TAPE + 1];
        private final int[] places = new int[MOST_TAPE + 1];
        private final int[] meanings = new int[MOST_TAPE + 1];
        private int tokenCount;
        private int now;
        private final int[] code = new int[MOST_TAPE];
        private final int[] starts = new int[PARTS];
        private int length;

        boolean append(int letter) {
            if (size >= tape.length) {
                return false;
            }
            put(tape, size, letter);
            size++;
            return true;
        }

        /** The TEXT of that number that the tape is; null, and where the fault is. The tape is empty then. */
        Text read(int number) {
            scan();
            now = 0;
            length = 0;
            fault = NONE;
            for (int part = 0; part < PARTS; part++) {
                expect(NEEDS + part);
                put(starts, part, length);
                readOr(0);
                expect(';');
                emit(Text.END_OF_PART);
            }
            expect(END);
            size = 0;
            if (fault != NONE || length < 0 || length > code.length) {
                return null;
            }
            return new Text(number, Arrays.copyOf(code, length), Arrays.copyOf(starts, PARTS));
        }

        // ---- tokens

        private void scan() {
            tokenCount = 0;
            int next = 0;
            for (int i = 0; i < size; i++) {
                if (i >= next) {
                    next = i + scanOne(i);
                }
            }
            addToken(END, size, 0);
        }

        /** Adds the token that begins at a place, if none but a blank does: how long it is. */
        private int scanOne(int place) {
            int c = byteAt(place);
            if (isLetter(c)) {
                return scanWord(place);
            }
            if (isDigit(c)) {
                return scanNumber(place);
            }
            if (c != ' ' && c != '\n') {
                addToken(isSign(c) ? c : FAULTY, place, 0);
            }
            return 1;
        }

        private int scanWord(int place) {
            int n = 0;
            for (int i = place; i < size && isLetter(byteAt(i)); i++) {
                n++;
            }
            int word = wordNumber(place, n);
            if (word == NONE) {
                addToken(FAULTY, place, 0);
            } else if (word < NAMES) {
                addToken(NAME_TOKEN, place, Text.FIRST_NAME - word);
            } else {
                addToken(NEEDS + word - NAMES, place, 0);
            }
            return n;
        }

        private int scanNumber(int place) {
            int n = 0;
            int value = 0;
            for (int i = place; i < size && isDigit(byteAt(i)); i++) {
                value = n < MOST_DIGITS ? value * 10 + byteAt(i) - '0' : value;
                n++;
            }
            addToken(n <= MOST_DIGITS ? NUMBER_TOKEN : FAULTY, place, value);
            return n;
        }

        private int wordNumber(int place, int n) {
            for (int w = 0; w < WORDS.length() / WORD_ROOM; w++) {
                int alike = 0;
                for (int i = 0; i < WORD_ROOM; i++) {
                    int letter = i < n ? byteAt(place + i) : ' ';
                    alike += wordLetter(w * WORD_ROOM + i) == letter ? 1 : 0;
                }
                if (alike == WORD_ROOM && n <= WORD_ROOM) {
                    return w;
                }
            }
            return NONE;
        }

        private static int wordLetter(int i) {
            return i >= 0 && i < WORDS.length() ? WORDS.charAt(i) : NONE;
        }

        private void addToken(int token, int place, int meaning) {
            put(tokens, tokenCount, token);
            put(places, tokenCount, place);
            put(meanings, tokenCount, meaning);
            tokenCount++;
        }

        private int byteAt(int place) {
            return place >= 0 && place < size && place < tape.length ? tape[place] : NONE;
        }

        private static boolean isLetter(int c) {
            return c >= 'a' && c <= 'z';
        }

        private static boolean isDigit(int c) {
            return c >= '0' && c <= '9';
        }

        private static boolean isSign(int c) {
            return c >= '(' && c <= '+' || c == '-' || c >= ';' && c <= '=';
        }

        // ---- grammar: open is how many of ( not - are open

        private int token() {
            return fault == NONE ? at(tokens, now) : FAULTY;
        }

        private void fail() {
            if (fault == NONE) {
                fault = at(places, now);
            }
        }

        private void expect(int token) {
            if (token() == token) {
                now++;
            } else {
                fail();
            }
        }

        private void emit(int op) {
            put(code, length, op);
            length++;
        }

        private void readOr(int open) {
            readAnd(open);
            for (int i = 0; i < MOST_TAPE && token() == OR; i++) {
                now++;
                readAnd(open);
                emit(-OR);
            }
        }

        private void readAnd(int open) {
            readNot(open);
            for (int i = 0; i < MOST_TAPE && token() == AND; i++) {
                now++;
                readNot(open);
                emit(-AND);
            }
        }

        private void readNot(int open) {
            if (token() == NOT) {
                if (open >= MOST_OPEN) {
                    fail();
                    return;
                }
                now++;
                readNot(open + 1);
                emit(-NOT);
                return;
            }
            readSum(open);
            int sign = token();
            if (sign == '<' || sign == '=') {
                now++;
                readSum(open);
                emit(-sign);
            }
        }

        private void readSum(int open) {
            readTerm(open);
            int sign = token();
            for (int i = 0; i < MOST_TAPE && (sign == '+' || sign == '-'); i++) {
                now++;
                readTerm(open);
                emit(-sign);
                sign = token();
            }
        }

        private void readTerm(int open) {
            readOne(open);
            for (int i = 0; i < MOST_TAPE && token() == '*'; i++) {
                now++;
                readOne(open);
                emit(-'*');
            }
        }

        private void readOne(int open) {
            int token = token();
            if (token == NUMBER_TOKEN || token == NAME_TOKEN) {
                emit(at(meanings, now));
                now++;
            } else if (open < MOST_OPEN && token == '-') {
                now++;
                readOne(open + 1);
                emit(Text.NEGATE);
            } else if (open < MOST_OPEN && token == '(') {
                now++;
                readOr(open + 1);
                expect(')');
            } else {
                fail();
            }
        }
    }
}
