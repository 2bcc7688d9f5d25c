/** Promises 13, 14: fewest, line. */
public final class ByTest {
    public static void main(String[] args) {
        Due d = new Due();
        fewest(d);
        lines(d);
        lineOfEmpty(d);
        d.end();
    }

    private static void fewest(Due d) {
        TruePies x = Due.told("v ab;v c;v def;g bc;g fe;g a;g cb;");
        int[] many = {1, 3, 1, 1};
        int[] taste = {1, 4, 0, 1};
        for (int g = 0; g < 4; g++) {
            d.due("fewest(" + g + ", 0)", x.fewest(g, 0), many[g]);
            d.due("fewest(" + g + ", 1)", x.fewest(g, 1), taste[g]);
        }
        x.comes(2);
        x.says(2, 1);
        d.due("round: fewest(2, 0)", x.fewest(2, 0), 3);
        d.due("round: fewest(2, 1)", x.fewest(2, 1), 0);
        d.due("leaf 1: fewest(0, 1)", x.fewest(0, 1), 2);
        d.due("nothing is changed", x.now(1), 1);
        d.due("fewest(4, 0)", x.fewest(4, 0), -1);
        d.due("fewest(-1, 0)", x.fewest(-1, 0), -1);
        d.due("fewest(0, 2)", x.fewest(0, 2), -1);
        d.due("fewest(0, -1)", x.fewest(0, -1), -1);
        x.comes(0);
        x.says(0, 2);
        d.due("by: fewest(0, 0)", x.fewest(0, 0), -2);
        d.due("by: fewest(0, 1)", x.fewest(0, 1), -2);
        d.due("by: fewest(0, 2) is BAD first", x.fewest(0, 2), -1);

        x = Due.told("v a;v b;g c;");
        d.due("no leaf lets him by: fewest(0, 0)", x.fewest(0, 0), -9);
        d.due("no leaf lets him by: fewest(0, 1)", x.fewest(0, 1), -9);
        x = Due.told("g a;");
        d.due("no leaves: fewest(0, 0)", x.fewest(0, 0), -9);
    }

    private static void lines(Due d) {
        line(d, "v a;v b;g b;g a;", 2, 1, 0);
        line(d, "v a;g a;g a;g a;", 3, 0, 1, 2);
        line(d, "v a;g b;g a;g b;", 1, 0, 1, 2);
        line(d, "v a;v b;v c;g c;g b;g a;", 3, 2, 1, 0);
        line(d, "v a;v b;g a;g a;g b;", 3, 0, 2, 1);
        line(d, "v f;v f;v e;v e;v abcd;g f;g e;g a;g b;g c;g d;", 3, 0, 2, 1, 3, 4, 5);
        line(d, "v a;v b;v c;v d;v e;g f;g e;g d;g c;g b;g a;", 5, 0, 4, 3, 2, 1, 5);
        line(d, "g a;g b;", 0, 0, 1);
        TruePies x = Due.told("v a;v b;g a;g b;g a;g b;");
        x.comes(3);
        x.comes(1);
        x.comes(0);
        x.says(0, 0);
        d.due("from leaf 1: line(-1)", x.line(-1), 1);
        d.due("from leaf 1: line(0)", x.line(0), 1);
        d.due("from leaf 1: line(1)", x.line(1), 3);
        d.due("from leaf 1: line(2)", x.line(2), -9);
        d.due("nothing is changed", x.now(3), 10);
        x.comes(2);
        d.due("of three: line(-1)", x.line(-1), 3);
        d.due("of three: line(0)", x.line(0), 1);
        d.due("of three: line(1)", x.line(1), 2);
        d.due("of three: line(2)", x.line(2), 3);
    }

    private static void line(Due d, String text, int many, int... order) {
        TruePies x = Due.told(text);
        for (int g = x.count(1) - 1; g >= 0; g--) {
            x.comes(g);
        }
        d.due("line(-1) of '" + text + "'", x.line(-1), many);
        for (int k = 0; k < 6; k++) {
            d.due("line(" + k + ") of '" + text + "'", x.line(k), k < order.length ? order[k] : -9);
        }
    }

    private static void lineOfEmpty(Due d) {
        TruePies x = new TruePies();
        d.due("nobody: line(-1)", x.line(-1), 0);
        d.due("nobody: line(0)", x.line(0), -9);
        d.due("nobody: line(5)", x.line(5), -9);
        d.due("line(-2)", x.line(-2), -1);
        d.due("line(6)", x.line(6), -1);
        d.due("line(least)", x.line(Integer.MIN_VALUE), -1);
    }
}
