/** Promises 19 to 22: tale, first, when, odds. */
public final class TalesTest {
    public static void main(String[] args) {
        Due d = new Due();
        tales(d);
        firsts(d);
        whens(d);
        odds(d);
        d.end();
    }

    private static void tales(Due d) {
        TruePies x = Due.told("y bcdefa;y aabbcc;y fedcba;");
        int[] ofA = {0, 1, 0, 5, 0, 0, 5};
        for (int n = 0; n < ofA.length; n++) {
            d.due("tale(0, " + n + ")", x.tale(0, n), ofA[n]);
        }
        d.due("tale(4, 0)", x.tale(4, 0), 4);
        d.due("tale(4, 1)", x.tale(4, 1), 5);
        d.due("tale(4, 2)", x.tale(4, 2), 2);
        TruePies turn = Due.told("y bcdefa;");
        d.due("one sister: tale(0, 99)", turn.tale(0, 99), 3);
        d.due("tale(-1, 0)", x.tale(-1, 0), -1);
        d.due("tale(6, 0)", x.tale(6, 0), -1);
        d.due("tale(0, -1)", x.tale(0, -1), -1);
        d.due("tale(0, 100)", x.tale(0, 100), -1);
        TruePies none = new TruePies();
        d.due("no sisters: tale(3, 0)", none.tale(3, 0), 3);
        d.due("no sisters: tale(3, 1)", none.tale(3, 1), -9);
        d.due("no sisters: tale(6, 1)", none.tale(6, 1), -1);
    }

    private static void firsts(Due d) {
        TruePies x = Due.told("y bcdefa;y aabbcc;");
        d.due("first(2, 0)", x.first(2, 0), 4);
        d.due("first(0, 1)", x.first(0, 1), 32);
        d.due("first(0, 2)", x.first(0, 2), 33);
        d.due("first(1, 2)", x.first(1, 2), 6);
        d.due("first(2, 2)", x.first(2, 2), 24);
        d.due("first(3, 2)", x.first(3, 2), 0);
        d.due("first(-1, 0)", x.first(-1, 0), -1);
        d.due("first(6, 0)", x.first(6, 0), -1);
        d.due("first(0, -1)", x.first(0, -1), -1);
        d.due("first(0, 100)", x.first(0, 100), -1);
        TruePies one = Due.told("y bcdefa;");
        d.due("one sister: first(3, 99)", one.first(3, 99), 1);
        TruePies none = new TruePies();
        d.due("no sisters: first(2, 0)", none.first(2, 0), 4);
        d.due("no sisters: first(2, 1)", none.first(2, 1), 0);
    }

    private static void whens(Due d) {
        TruePies x = new TruePies();
        d.due("no Fridays: when(0)", x.when(0), 0);
        d.due("no Fridays: when(30000)", x.when(30000), 30000);
        d.due("when(-1)", x.when(-1), -1);
        d.due("when(30001)", x.when(30001), -1);
        x = Due.told("k7 4;");
        d.due("by 7: when(0)", x.when(0), 4);
        d.due("by 7: when(4)", x.when(4), 4);
        d.due("by 7: when(5)", x.when(5), 11);
        x = Due.told("k4 2;k6 0;");
        d.due("by 4, 6: when(0)", x.when(0), 6);
        d.due("by 4, 6: when(7)", x.when(7), 18);
        x = Due.told("k4 2;k6 1;");
        d.due("never: when(0)", x.when(0), -9);
        x = Due.told("k2 0;k3 0;k6 1;");
        d.due("never by the third: when(0)", x.when(0), -9);
        x = Due.told("k9 8;k11 10;k10 9;");
        d.due("by 9, 11, 10: when(0)", x.when(0), 989);
        d.due("by 9, 11, 10: when(990)", x.when(990), 1979);
        d.due("by 9, 11, 10: when(30000)", x.when(30000), 30689);
        x = Due.told("k12 0;k12 0;k12 0;");
        d.due("thrice the same: when(1)", x.when(1), 12);
    }

    private static void odds(Due d) {
        odds(d, 5, 1, 1, 1, 2);
        odds(d, 5, 2, 1, 3, 4);
        odds(d, 3, 1, 1, 3, 10);
        odds(d, 3, 2, 1, 51, 100);
        odds(d, 3, 2, 2, 9, 100);
        odds(d, 5, 6, 3, 21, 32);
        odds(d, 1, 6, 6, 1, 1000000);
        odds(d, 9, 6, 6, 531441, 1000000);
        odds(d, 2, 3, 2, 13, 125);
        odds(d, 0, 6, 1, 0, 1);
        odds(d, 0, 6, 0, 1, 1);
        odds(d, 10, 6, 6, 1, 1);
        odds(d, 0, 0, 0, 1, 1);
        odds(d, 10, 0, 1, 0, 1);
        odds(d, 5, 3, 4, 0, 1);
        TruePies x = new TruePies();
        d.due("odds(-1, 0, 0, 0)", x.odds(-1, 0, 0, 0), -1);
        d.due("odds(11, 0, 0, 0)", x.odds(11, 0, 0, 0), -1);
        d.due("odds(0, -1, 0, 0)", x.odds(0, -1, 0, 0), -1);
        d.due("odds(0, 7, 0, 0)", x.odds(0, 7, 0, 0), -1);
        d.due("odds(0, 0, -1, 0)", x.odds(0, 0, -1, 0), -1);
        d.due("odds(0, 0, 7, 0)", x.odds(0, 0, 7, 0), -1);
        d.due("odds(0, 0, 0, -1)", x.odds(0, 0, 0, -1), -1);
        d.due("odds(0, 0, 0, 2)", x.odds(0, 0, 0, 2), -1);
    }

    private static void odds(Due d, int x, int n, int k, int upper, int lower) {
        TruePies pies = new TruePies();
        String call = "odds(" + x + ", " + n + ", " + k;
        d.due(call + ", 0)", pies.odds(x, n, k, 0), upper);
        d.due(call + ", 1)", pies.odds(x, n, k, 1), lower);
    }
}
