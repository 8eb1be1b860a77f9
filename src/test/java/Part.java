/** A part of the edges: the calls that the interface names together. */
abstract class Part {
    static final long NONE = -1, BAD = -2, STATE = -3, FULL = -4;
    static final long NOTHING = -11, OUTSIDE = -12, UNLIKE = -13, BELOW_ZERO = -14;
    static final long NO = -4611686018427387904L;
    static final String DRY = "000000000000000000000000", WET = "999999999999999999999999";

    final Edges e;

    Part(Edges e) {
        this.e = e;
    }

    abstract void all();

    /** Each is refused so in the busy market, and changes nothing. */
    void refusedEach(long want, String... calls) {
        for (String call : calls) {
            e.refused(call, want);
        }
    }

    /** A market in which it rains everywhere, with so many BARGAINS of KIND 0, NUMBER i, STREET 0. */
    Run wet(int bargains) {
        Run x = e.run();
        x.rain(0, WET);
        x.rain(1, WET);
        for (int i = 0; i < bargains; i++) {
            x.call("bargain(0, " + i + ", 0)");
        }
        return x;
    }

    /** The same, by the rule needs 1, takes 1 and this value. */
    Run wet(int bargains, String value) {
        Run x = wet(bargains);
        x.rule("1", "1", value);
        return x;
    }
}
