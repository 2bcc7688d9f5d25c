/** Promises 23, 27: rate, trace. */
public final class KindsTest {
    public static void main(String[] args) {
        Due d = new Due();
        rates(d);
        refused(d);
        belowZero(d);
        d.end();
    }

    private static void rates(Due d) {
        TruePies x = Due.told("n1;v ab;v c;v cd;g f;g abc;");
        x.comes(1);
        for (int i = 0; i < 4; i++) {
            x.says(1, 5);
            x.minutes(1);
        }
        // Goer 1 has 3 tastes, went round 4 times, 3 leaves let him by, 4 pies are had.
        int[] rate = {3, 7, 0, 14, 1, 7};
        long[] adds = {1, 11, 101, 1011, 10101, 100001};
        long trace = 0;
        for (int kind = 0; kind < 6; kind++) {
            trace += adds[kind];
            d.due("rate(" + kind + ", 1)", x.rate(kind, 1), rate[kind]);
            d.due("trace() behind kind " + kind, x.trace(), trace);
        }
        int[] other = {1, 1, 1, 2, 1, 5};
        for (int kind = 0; kind < 6; kind++) {
            d.due("rate(" + kind + ", 0)", x.rate(kind, 0), other[kind]);
        }
        d.due("trace() is twice that", x.trace(), 2 * trace);
    }

    private static void refused(Due d) {
        TruePies x = Due.told("v a;g a;");
        d.due("rate(-1, 0)", x.rate(-1, 0), -1000000);
        d.due("rate(6, 0)", x.rate(6, 0), -1000000);
        d.due("rate(0, -1)", x.rate(0, -1), -1000000);
        d.due("rate(0, 1)", x.rate(0, 1), -1000000);
        d.due("rate(5, 6)", x.rate(5, 6), -1000000);
        d.due("refused: trace()", x.trace(), 0);
    }

    private static void belowZero(Due d) {
        TruePies x = Due.told("v a;v ab;v a;v ac;v a;g a;");
        d.due("rate(2, 0) below 0", x.rate(2, 0), -4);
        d.due("rate(4, 0) below 0", x.rate(4, 0), -4);
    }
}
