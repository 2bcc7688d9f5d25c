/** Promises 5 to 8, 26: leaf, goer, sister, now, count. */
public final class CourtTest {
    public static void main(String[] args) {
        Due d = new Due();
        leaves(d);
        goers(d);
        sisters(d);
        now(d);
        covers(d);
        counts(d);
        d.end();
    }

    private static void leaves(Due d) {
        TruePies x = Due.told("v ab;v c;v fff;g bc;g d;g ac;g abcdef;");
        d.due("leaf(0, 0)", x.leaf(0, 0), 3);
        d.due("leaf(1, 0)", x.leaf(1, 0), 4);
        d.due("leaf(2, 0), told thrice", x.leaf(2, 0), 32);
        d.due("leaf(0, 1)", x.leaf(0, 1), 1 | 4 | 8);
        d.due("leaf(1, 1)", x.leaf(1, 1), 1 | 4 | 8);
        d.due("leaf(2, 1)", x.leaf(2, 1), 8);
        x.comes(3);
        x.says(3, 0);
        d.due("leaf(0, 1) though one is BY", x.leaf(0, 1), 1 | 4 | 8);
        d.due("leaf(-1, 0)", x.leaf(-1, 0), -1);
        d.due("leaf(3, 0)", x.leaf(3, 0), -1);
        d.due("leaf(5, 1)", x.leaf(5, 1), -1);
        d.due("leaf(0, -1)", x.leaf(0, -1), -1);
        d.due("leaf(0, 2)", x.leaf(0, 2), -1);
        d.due("leaf(greatest, 0)", x.leaf(Integer.MAX_VALUE, 0), -1);
        d.due("leaf(least, 0)", x.leaf(Integer.MIN_VALUE, 0), -1);
    }

    private static void goers(Due d) {
        TruePies x = Due.told("n4;v ab;v c;v abc;g bc;g d;");
        d.due("goer(0, 0)", x.goer(0, 0), 6);
        d.due("goer(0, 4)", x.goer(0, 4), 7);
        d.due("goer(1, 4)", x.goer(1, 4), 0);
        d.due("away: goer(0, 1)", x.goer(0, 1), 0);
        x.comes(0);
        d.due("at the gate: goer(0, 1)", x.goer(0, 1), 1);
        d.due("at the gate: goer(0, 2)", x.goer(0, 2), 0);
        x.says(0, 0);
        d.due("round: goer(0, 1)", x.goer(0, 1), 2);
        d.due("round: goer(0, 2)", x.goer(0, 2), 4);
        d.due("round: goer(0, 3)", x.goer(0, 3), 1);
        x.minutes(3);
        d.due("round, 3 later: goer(0, 2)", x.goer(0, 2), 1);
        x.minutes(1);
        d.due("4 later: goer(0, 1)", x.goer(0, 1), 1);
        d.due("4 later: goer(0, 2)", x.goer(0, 2), 0);
        x.says(0, 2);
        d.due("by: goer(0, 1)", x.goer(0, 1), 3);
        d.due("by: goer(0, 2)", x.goer(0, 2), 0);
        d.due("by: goer(0, 3)", x.goer(0, 3), 1);
        d.due("goer(-1, 0)", x.goer(-1, 0), -1);
        d.due("goer(2, 0)", x.goer(2, 0), -1);
        d.due("goer(6, 1)", x.goer(6, 1), -1);
        d.due("goer(0, -1)", x.goer(0, -1), -1);
        d.due("goer(0, 5)", x.goer(0, 5), -1);
    }

    private static void sisters(Due d) {
        TruePies x = Due.told("y bcdefa;y aabbcc;");
        int[] makes = {1, 2, 3, 4, 5, 0, 0, 0, 1, 1, 2, 2};
        for (int i = 0; i < makes.length; i++) {
            d.due("sister(" + i / 6 + ", " + i % 6 + ")", x.sister(i / 6, i % 6), makes[i]);
        }
        d.due("sister(-1, 0)", x.sister(-1, 0), -1);
        d.due("sister(2, 0)", x.sister(2, 0), -1);
        d.due("sister(4, 0)", x.sister(4, 0), -1);
        d.due("sister(0, -1)", x.sister(0, -1), -1);
        d.due("sister(0, 6)", x.sister(0, 6), -1);
        d.due("sister(1, 6)", x.sister(1, 6), -1);
    }

    private static void now(Due d) {
        TruePies x = Due.told("v a;v b;g a;g b;g f;");
        x.comes(0);
        x.comes(1);
        x.comes(2);
        x.minutes(7);
        x.says(0, 0);
        x.says(2, 5);
        x.says(1, 1);
        d.due("now(0)", x.now(0), 7);
        d.due("now(1)", x.now(1), 1);
        d.due("now(2)", x.now(2), 3);
        d.due("now(3)", x.now(3), 0);
        d.due("now(4)", x.now(4), 1);
        d.due("now(6)", x.now(6), 7);
        x.minutes(3);
        d.due("later: now(3)", x.now(3), 6);
        d.due("now(-1)", x.now(-1), -1);
        d.due("now(7)", x.now(7), -1);
    }

    private static void covers(Due d) {
        cover(d, "", 0);
        cover(d, "v a;v b;", 0);
        cover(d, "g a;", -9);
        cover(d, "v a;g b;", -9);
        cover(d, "v a;g a;g b;", -9);
        cover(d, "v a;v b;v ab;g a;g b;", 4);
        cover(d, "v a;v a;g a;", 1);
        cover(d, "v ab;v bc;v ca;g a;g b;g c;", 3);
        cover(d, "v a;v b;v c;v d;v e;g a;g b;g c;g d;g e;", 31);
        cover(d, "v f;v bc;v ab;v cd;v d;g a;g b;g c;g d;", 12);
        TruePies x = Due.told("v a;v b;g a;g b;");
        x.comes(0);
        x.says(0, 0);
        d.due("cover though one is BY", x.now(5), 3);
    }

    private static void cover(Due d, String text, int want) {
        d.due("now(5) of '" + text + "'", Due.told(text).now(5), want);
    }

    private static void counts(Due d) {
        TruePies x = Due.told("n8;v a;v b;g a;g b;g c;y aaaaaa;y aaaaaa;y aaaaaa;y aaaaaa;k2 0;");
        x.sees(0, 0, 0);
        x.sees(0, 1, 0);
        x.type('v');
        x.type('v');
        x.type('v');
        int[] counts = {2, 3, 4, 1, 8, 2, 3};
        for (int what = 0; what < counts.length; what++) {
            d.due("count(" + what + ")", x.count(what), counts[what]);
        }
        d.due("count(-1)", x.count(-1), -1);
        d.due("count(7)", x.count(7), -1);
    }
}
