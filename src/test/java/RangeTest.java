import java.util.function.Supplier;

/**
 * "BAD (a number is not as told, or there is no such thing)": for every number that a call takes, the values from
 * -300 to 300 and some far out (where shorter numbers would come round) are taken if they are as told, else not.
 */
public final class RangeTest {
    private static final int BAD = -1, NO = -1000000;
    private static final int NEAR = 300;
    private static final int[] FAR = {
        Integer.MIN_VALUE, Integer.MIN_VALUE + 1, -65536, -65535, -32768, -30001, -30000, -1000000, -512, 511, 512, 513,
        999, 1000, 4096, 16384, 29999, 30000, 30001, 30002, 32767, 32768, 65535, 65536, 65537, 65541, 1 << 24, 1 << 30,
        Integer.MAX_VALUE - 1, Integer.MAX_VALUE
    };

    /** A call with one of its numbers left open. */
    private interface Call {
        long on(TruePies x, int value);
    }

    private final Due d;

    private RangeTest(Due d) {
        this.d = d;
    }

    public static void main(String[] args) {
        Due d = new Due();
        RangeTest test = new RangeTest(d);
        test.letters();
        for (int many = 0; many <= 6; many++) {
            test.leaves(Math.min(many, 5));
            test.goers(many);
            test.sisters(Math.min(many, 4));
        }
        test.tastes();
        test.whats();
        test.others();
        d.end();
    }

    private void range(String call, Supplier<TruePies> made, int least, int greatest, Call open) {
        for (int value = -NEAR; value <= NEAR; value++) {
            value(call, made.get(), least, greatest, value, open);
        }
        for (int value : FAR) {
            value(call, made.get(), least, greatest, value, open);
        }
    }

    private void value(String call, TruePies x, int least, int greatest, int value, Call open) {
        int refusal = call.startsWith("rate") ? NO : BAD;
        boolean taken = open.on(x, value) != refusal;
        String name = call + " with " + value + " is taken";
        d.due(name, taken ? 1 : 0, value >= least && value <= greatest ? 1 : 0);
    }

    /** Promise 2: "A letter (0 .. 255)". */
    private void letters() {
        range("type(letter)", TruePies::new, 0, 255, TruePies::type);
    }

    /** "LEAVES 0 .. (5 at most)": there are so many, and no others. */
    private void leaves(int many) {
        Supplier<TruePies> made = () -> Due.told("v a;".repeat(many) + "g a;");
        String of = " of " + many;
        range("leaf(l, 0)" + of, made, 0, many - 1, (x, l) -> x.leaf(l, 0));
        range("leaf(l, 1)" + of, made, 0, many - 1, (x, l) -> x.leaf(l, 1));
        range("sees(0, leaf, 0)" + of, made, 0, many - 1, (x, l) -> x.sees(0, l, 0));
        range("ask(leaf)" + of, made, 0, many - 1, TruePies::ask);
    }

    /** "GOERS 0 .. (6 at most)". */
    private void goers(int many) {
        Supplier<TruePies> made = () -> Due.told("v a;" + "g b;".repeat(many));
        String of = " of " + many;
        for (int what = 0; what <= 4; what++) {
            int asked = what;
            range("goer(g, " + what + ")" + of, made, 0, many - 1, (x, g) -> x.goer(g, asked));
        }
        range("comes(g)" + of, made, 0, many - 1, TruePies::comes);
        range("says(g, 0)" + of, made, 0, many - 1, (x, g) -> x.says(g, 0));
        range("fewest(g, 0)" + of, made, 0, many - 1, (x, g) -> x.fewest(g, 0));
        range("fewest(g, 1)" + of, made, 0, many - 1, (x, g) -> x.fewest(g, 1));
        for (int kind = 0; kind <= 5; kind++) {
            int asked = kind;
            range("rate(" + kind + ", g)" + of, made, 0, many - 1, (x, g) -> x.rate(asked, g));
        }
    }

    /** "SISTERS 0 .. (4 at most)". */
    private void sisters(int many) {
        Supplier<TruePies> made = () -> Due.told("y abcdef;".repeat(many));
        range("sister(y, 0) of " + many, made, 0, many - 1, (x, y) -> x.sister(y, 0));
        range("sister(y, 5) of " + many, made, 0, many - 1, (x, y) -> x.sister(y, 5));
    }

    /** "TASTES are a to f (0 .. 5)", in each call that takes one. */
    private void tastes() {
        Supplier<TruePies> sisters = () -> Due.told("y bcdefa;y aabbcc;y aabbcc;y fedcba;");
        for (int y = 0; y < 4; y++) {
            int asked = y;
            range("sister(" + y + ", taste)", sisters, 0, 5, (x, t) -> x.sister(asked, t));
        }
        range("tale(taste, 0)", sisters, 0, 5, (x, t) -> x.tale(t, 0));
        range("tale(taste, 99)", sisters, 0, 5, (x, t) -> x.tale(t, 99));
        range("first(taste, 0)", sisters, 0, 5, (x, t) -> x.first(t, 0));
        range("first(taste, 99)", sisters, 0, 5, (x, t) -> x.first(t, 99));
        Supplier<TruePies> court = () -> Due.told("v ab;g bc;");
        range("says(0, taste), AWAY", court, 0, 5, (x, t) -> x.says(0, t));
        range("says(0, taste)", () -> atTheGate("v ab;", 1), 0, 5, (x, t) -> x.says(0, t));
        range("sees(taste, 0, 0)", court, 0, 5, (x, t) -> x.sees(t, 0, 0));
        range("sees(taste, 0, 1)", court, 0, 5, (x, t) -> x.sees(t, 0, 1));
    }

    private static TruePies atTheGate(String leaves, int many) {
        TruePies x = Due.told(leaves + "g bc;".repeat(many));
        for (int g = 0; g < many; g++) {
            x.comes(g);
        }
        return x;
    }

    /** What a number asks for: so many things can be asked, told with each call. */
    private void whats() {
        Supplier<TruePies> court = () -> Due.told("v ab;g bc;");
        range("leaf(0, what)", court, 0, 1, (x, w) -> x.leaf(0, w));
        range("goer(0, what)", court, 0, 4, (x, w) -> x.goer(0, w));
        range("now(what)", court, 0, 6, TruePies::now);
        range("now(what), new", TruePies::new, 0, 6, TruePies::now);
        range("fewest(0, what)", court, 0, 1, (x, w) -> x.fewest(0, w));
        range("had(what)", court, 0, 2, TruePies::had);
        range("had(what), new", TruePies::new, 0, 2, TruePies::had);
        range("count(what)", court, 0, 6, TruePies::count);
        range("count(what), new", TruePies::new, 0, 6, TruePies::count);
        range("odds(5, 6, 3, what)", TruePies::new, 0, 1, (x, w) -> x.odds(5, 6, 3, w));
        range("rate(kind, 0)", court, 0, 5, (x, k) -> x.rate(k, 0));
        range("keep(image)", TruePies::new, 0, 1, TruePies::keep);
        range("back(image), none was kept", TruePies::new, 0, 1, TruePies::back);
        range("back(image)", () -> State.BRIM.make(), 0, 1, TruePies::back);
    }

    /** "MINUTES go by (1 .. 9)", "told n (0 .. 99) times", "from a day (0 .. 30000) on", "x (0 .. 10), n (0 .. 6), k (0 .. 6)". */
    private void others() {
        range("minutes(n)", TruePies::new, 1, 9, TruePies::minutes);
        range("minutes(n) at 999", () -> State.LATE.make(), 1, 9, TruePies::minutes);
        // "BAD (below -1, above 5)", whether nobody is at the GATE or all are.
        range("line(k), new", TruePies::new, -1, 5, TruePies::line);
        range("line(k), six", () -> atTheGate("v ab;", 6), -1, 5, TruePies::line);
        range("line(k), no leaves", () -> atTheGate("", 6), -1, 5, TruePies::line);
        range("sees(0, 0, by)", () -> Due.told("v a;"), 0, 1, (x, by) -> x.sees(0, 0, by));
        range("tale(0, n)", () -> Due.told("y aaaaaa;"), 0, 99, (x, n) -> x.tale(0, n));
        range("tale(0, n), no sisters", TruePies::new, 0, 99, (x, n) -> x.tale(0, n));
        range("first(0, n)", () -> Due.told("y aaaaaa;"), 0, 99, (x, n) -> x.first(0, n));
        range("first(0, n), no sisters", TruePies::new, 0, 99, (x, n) -> x.first(0, n));
        range("when(day)", () -> Due.told("k7 4;"), 0, 30000, TruePies::when);
        range("when(day), no Fridays", TruePies::new, 0, 30000, TruePies::when);
        range("when(day), never", () -> Due.told("k2 0;k2 1;"), 0, 30000, TruePies::when);
        range("odds(x, 6, 3, 0)", TruePies::new, 0, 10, (x, v) -> x.odds(v, 6, 3, 0));
        range("odds(5, n, 3, 0)", TruePies::new, 0, 6, (x, v) -> x.odds(5, v, 3, 0));
        range("odds(5, 3, k, 0)", TruePies::new, 0, 6, (x, v) -> x.odds(5, 3, v, 0));
    }
}
