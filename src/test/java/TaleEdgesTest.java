/** Part 3 of the document, the tales, the Fridays and their odds, sentence by sentence. */
public final class TaleEdgesTest {
    private static final int BAD = -1, NONE = -9;
    private static final String[] SISTERS = {"bcdefa", "aabbcc", "fedcba", "ccdeff"};

    private final Due d = new Due();

    public static void main(String[] args) {
        TaleEdgesTest test = new TaleEdgesTest();
        test.toldNoneTo99Times();
        test.noSisters();
        test.whatWasFirstSaid();
        test.firstOfAllOrNone();
        test.dayZeroTo30000();
        test.thatDayToo();
        test.withoutFridays();
        test.never();
        test.threeFridays();
        test.beyondTheLastDay();
        test.everyOdds();
        test.oddsAtTheEnds();
        test.leastTerms();
        test.d.end();
    }

    private static String court(int sisters) {
        StringBuilder court = new StringBuilder();
        for (int y = 0; y < sisters; y++) {
            court.append("y ").append(SISTERS[y]).append(';');
        }
        return court.toString();
    }

    /** "TALE of a TASTE told n (0 .. 99) times, by SISTER 0, 1 .. in turn (behind the last one the first)". */
    private void toldNoneTo99Times() {
        for (int sisters = 1; sisters <= 4; sisters++) {
            for (int taste = 0; taste < 6; taste++) {
                TruePies x = Due.told(court(sisters));
                int tale = taste;
                for (int n = 0; n <= 99; n++) {
                    d.due(sisters + " sisters: tale(" + taste + ", " + n + ")", x.tale(taste, n), tale);
                    tale = SISTERS[n % sisters].charAt(tale) - 'a';
                }
                d.due(sisters + " sisters: tale(" + taste + ", -1)", x.tale(taste, -1), BAD);
                d.due(sisters + " sisters: tale(" + taste + ", 100)", x.tale(taste, 100), BAD);
            }
            TruePies x = Due.told(court(sisters));
            d.due("tale(-1, 1)", x.tale(-1, 1), BAD);
            d.due("tale(6, 1)", x.tale(6, 1), BAD);
        }
    }

    /** "NONE (there are no SISTERS, n above 0)". */
    private void noSisters() {
        TruePies x = Due.told("v a;g a;k2 0;");
        for (int taste = 0; taste < 6; taste++) {
            d.due("no sisters: tale(" + taste + ", 0)", x.tale(taste, 0), taste);
            d.due("no sisters: tale(" + taste + ", 1)", x.tale(taste, 1), NONE);
            d.due("no sisters: tale(" + taste + ", 99)", x.tale(taste, 99), NONE);
            d.due("no sisters: tale(" + taste + ", 100)", x.tale(taste, 100), BAD);
            d.due("no sisters: first(" + taste + ", 0)", x.first(taste, 0), 1 << taste);
            d.due("no sisters: first(" + taste + ", 1)", x.first(taste, 1), 0);
            d.due("no sisters: first(" + taste + ", 99)", x.first(taste, 99), 0);
            d.due("no sisters: first(" + taste + ", 100)", x.first(taste, 100), BAD);
        }
        d.due("no sisters: tale(6, 1)", x.tale(6, 1), BAD);
        d.due("no sisters: first(6, 1)", x.first(6, 1), BAD);
        d.due("no sisters: first(-1, 0)", x.first(-1, 0), BAD);
    }

    /** "FIRST for a TASTE, n: TASTES (bits) of which that is the TALE". */
    private void whatWasFirstSaid() {
        for (int sisters = 1; sisters <= 4; sisters++) {
            for (int n = 0; n <= 99; n += n < 9 ? 1 : 10) {
                TruePies x = Due.told(court(sisters));
                int[] bits = new int[6];
                for (int taste = 0; taste < 6; taste++) {
                    bits[x.tale(taste, n)] |= 1 << taste;
                }
                for (int taste = 0; taste < 6; taste++) {
                    d.due(sisters + " sisters: first(" + taste + ", " + n + ")", x.first(taste, n), bits[taste]);
                }
            }
        }
    }

    private void firstOfAllOrNone() {
        TruePies x = Due.told("y ffffff;");
        for (int taste = 0; taste < 6; taste++) {
            d.due("all become f: first(" + taste + ", 0)", x.first(taste, 0), 1 << taste);
            d.due("all become f: first(" + taste + ", 1)", x.first(taste, 1), taste == 5 ? 63 : 0);
            d.due("all become f: first(" + taste + ", 99)", x.first(taste, 99), taste == 5 ? 63 : 0);
        }
        d.due("first(5, -1)", x.first(5, -1), BAD);
        d.due("first(5, 100)", x.first(5, 100), BAD);
        d.due("first(-1, 99)", x.first(-1, 99), BAD);
        d.due("first(6, 99)", x.first(6, 99), BAD);
    }

    private void when(TruePies x, String name, int day, int want) {
        d.due(name + ": when(" + day + ")", x.when(day), want);
    }

    /** "WHEN from a day (0 .. 30000) on". */
    private void dayZeroTo30000() {
        for (String court : new String[] {"", "k2 0;", "k2 0;k2 1;"}) {
            TruePies x = Due.told(court);
            when(x, court, -1, BAD);
            when(x, court, 30001, BAD);
            when(x, court, Integer.MIN_VALUE, BAD);
            when(x, court, Integer.MAX_VALUE, BAD);
        }
        TruePies x = Due.told("k2 0;");
        when(x, "even days", 0, 0);
        when(x, "even days", 1, 2);
        when(x, "even days", 29999, 30000);
        when(x, "even days", 30000, 30000);
    }

    /** "the first day (that one, too)". */
    private void thatDayToo() {
        for (int m = 2; m <= 12; m++) {
            for (int r = 0; r < m; r++) {
                TruePies x = Due.told("k " + m + " " + r + ";");
                String name = r + " by " + m;
                when(x, name, 0, r);
                when(x, name, r, r);
                when(x, name, r + 1, r + m);
                when(x, name, r + m - 1, r + m);
                when(x, name, r + m, r + m);
                when(x, name, r + m + 1, r + 2 * m);
            }
        }
    }

    /** "(without FRIDAYS: that day)". */
    private void withoutFridays() {
        TruePies told = Due.told("v a;g a;n9;");
        for (int day : new int[] {0, 1, 17, 29999, 30000}) {
            when(new TruePies(), "a new object", day, day);
            when(told, "no Fridays are told", day, day);
        }
    }

    /** "NONE": two that never fall together, or the third with the two others. */
    private void never() {
        String[] courts = {
            "k2 0;k2 1;", "k2 1;k12 0;", "k12 0;k12 11;", "k4 1;k6 2;", "k2 0;k3 0;k6 1;", "k6 1;k2 0;k3 0;", "k7 0;k5 0;k10 1;",
            "k12 3;k8 2;k7 1;", "k7 1;k12 3;k8 2;"
        };
        for (String court : courts) {
            for (int day : new int[] {0, 1, 29999, 30000}) {
                when(Due.told(court), court, day, NONE);
            }
        }
    }

    /** "that is of all FRIDAYS": none to three of them, in any order, each day looked at by itself. */
    private void threeFridays() {
        String[] items = {"k12 7;", "k10 3;", "k9 4;"};
        // 7 by 12, 3 by 10: 43 by 60; with 4 by 9: 103 by 180.
        for (int[] order : new int[][] {{0, 1, 2}, {0, 2, 1}, {1, 0, 2}, {1, 2, 0}, {2, 0, 1}, {2, 1, 0}}) {
            TruePies x = Due.told(items[order[0]] + items[order[1]] + items[order[2]]);
            when(x, "three", 0, 103);
            when(x, "three", 103, 103);
            when(x, "three", 104, 283);
            when(x, "three", 30000, 30163);
        }
        TruePies two = Due.told(items[0] + items[1]);
        when(two, "two", 0, 43);
        when(two, "two", 44, 103);
        TruePies same = Due.told("k12 11;k12 11;k12 11;");
        when(same, "thrice the same", 0, 11);
        when(same, "thrice the same", 12, 23);
        TruePies within = Due.told("k3 2;k6 5;k12 11;");
        when(within, "one within another", 0, 11);
        when(within, "one within another", 12, 23);
    }

    /** The day found may be behind 30000: the longest way is 990 days less one. */
    private void beyondTheLastDay() {
        for (String court : new String[] {"k9 2;k11 2;k10 9;", "k11 2;k10 9;k9 2;", "k10 9;k9 2;k11 2;"}) {
            TruePies x = Due.told(court);
            when(x, court, 29999, 29999);
            when(x, court, 30000, 30989);
            when(x, court, 29010, 29999);
            when(x, court, 29009, 29009);
        }
    }

    /** "ODDS by x (0 .. 10), n (0 .. 6), k (0 .. 6)": each of them, by all ways in which n days can go. */
    private void everyOdds() {
        TruePies pies = new TruePies();
        int calls = 0;
        for (int x = 0; x <= 10; x++) {
            for (int n = 0; n <= 6; n++) {
                for (int k = 0; k <= 6; k++) {
                    long lower = (long) Math.pow(10, n);
                    long upper = ways(x, n, k);
                    long shared = shared(upper, lower);
                    if (calls > 500) {
                        pies = new TruePies();
                        calls = 0;
                    }
                    calls += 2;
                    String call = "odds(" + x + ", " + n + ", " + k;
                    d.due(call + ", 0)", pies.odds(x, n, k, 0), upper / shared);
                    d.due(call + ", 1)", pies.odds(x, n, k, 1), lower / shared);
                }
            }
        }
    }

    private static long ways(int x, int n, int k) {
        if (n == 0) {
            return k <= 0 ? 1 : 0;
        }
        return x * ways(x, n - 1, k - 1) + (10 - x) * ways(x, n - 1, k);
    }

    private static long shared(long a, long b) {
        return b == 0 ? a : shared(b, a % b);
    }

    private void odds(int x, int n, int k, int upper, int lower) {
        TruePies pies = new TruePies();
        String call = "odds(" + x + ", " + n + ", " + k;
        d.due(call + ", 0)", pies.odds(x, n, k, 0), upper);
        d.due(call + ", 1)", pies.odds(x, n, k, 1), lower);
        d.due(call + ", 2)", pies.odds(x, n, k, 2), BAD);
        d.due(call + ", -1)", pies.odds(x, n, k, -1), BAD);
    }

    /** The ends of each: never, always, no days, no times, more times than days. */
    private void oddsAtTheEnds() {
        odds(0, 0, 0, 1, 1);
        odds(0, 0, 6, 0, 1);
        odds(0, 6, 0, 1, 1);
        odds(0, 6, 1, 0, 1);
        odds(0, 6, 6, 0, 1);
        odds(10, 0, 0, 1, 1);
        odds(10, 0, 1, 0, 1);
        odds(10, 6, 0, 1, 1);
        odds(10, 6, 6, 1, 1);
        odds(10, 5, 6, 0, 1);
        odds(1, 6, 6, 1, 1000000);
        odds(1, 6, 0, 1, 1);
        odds(9, 6, 6, 531441, 1000000);
        odds(9, 6, 1, 999999, 1000000);
        for (int bad : new int[] {Integer.MIN_VALUE, -1, 11, Integer.MAX_VALUE}) {
            d.due("odds(" + bad + ", 1, 1, 0)", new TruePies().odds(bad, 1, 1, 0), BAD);
        }
        for (int bad : new int[] {Integer.MIN_VALUE, -1, 7, Integer.MAX_VALUE}) {
            d.due("odds(5, " + bad + ", 1, 0)", new TruePies().odds(5, bad, 1, 0), BAD);
            d.due("odds(5, 1, " + bad + ", 0)", new TruePies().odds(5, 1, bad, 0), BAD);
        }
    }

    /** Promise 22: "in least terms". */
    private void leastTerms() {
        odds(5, 6, 6, 1, 64);
        odds(5, 6, 3, 21, 32);
        odds(2, 2, 1, 9, 25);
        odds(4, 3, 3, 8, 125);
        odds(8, 6, 1, 15624, 15625);
        odds(6, 1, 1, 3, 5);
    }
}
