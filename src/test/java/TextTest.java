/** Promises 1 to 4: a new object, type, clear, court. */
public final class TextTest {
    public static void main(String[] args) {
        Due d = new Due();
        newObject(d);
        typing(d);
        clearing(d);
        fullTexts(d);
        oldLeaves(d);
        goodTexts(d);
        faults(d);
        faultChangesNothing(d);
        d.end();
    }

    private static void newObject(Due d) {
        TruePies x = new TruePies();
        int[] counts = {0, 0, 0, 0, 3, 0, 0};
        for (int what = 0; what < counts.length; what++) {
            d.due("new: count(" + what + ")", x.count(what), counts[what]);
        }
        for (int what = 0; what <= 6; what++) {
            d.due("new: now(" + what + ")", x.now(what), 0);
        }
        d.due("new: trace()", x.trace(), 0);
        d.due("new: leaf(0, 0)", x.leaf(0, 0), -1);
        d.due("new: goer(0, 0)", x.goer(0, 0), -1);
        d.due("new: sister(0, 0)", x.sister(0, 0), -1);
        d.due("new: undo()", x.undo(), -2);
        d.due("new: back(0)", x.back(0), -2);
        d.due("new: back(1)", x.back(1), -2);
        d.due("new: had(0)", x.had(0), 64);
        d.due("new: clear()", x.clear(), 0);
    }

    private static void typing(Due d) {
        TruePies x = new TruePies();
        d.due("type(-1)", x.type(-1), -1);
        d.due("type(256)", x.type(256), -1);
        d.due("type(least)", x.type(Integer.MIN_VALUE), -1);
        d.due("type(0)", x.type(0), 1);
        d.due("type(255)", x.type(255), 2);
        for (int many = 3; many <= 160; many++) {
            d.due("type(32), letter " + many, x.type(32), many);
        }
        d.due("full: type(32)", x.type(32), -3);
        d.due("full: type(256) is BAD first", x.type(256), -1);
        d.due("full: count(6)", x.count(6), 160);
        d.due("full: clear()", x.clear(), 160);
        d.due("type(32) behind clear()", x.type(32), 1);
    }

    private static void clearing(Due d) {
        TruePies x = Due.told("v a;g a;");
        Due.typeAll(x, "v b;");
        d.due("clear()", x.clear(), 4);
        d.due("clear() again", x.clear(), 0);
        d.due("clear() leaves the court", x.leaf(0, 0), 1);
        d.due("court() of the empty text", x.court(), 0);
        d.due("the empty text tells no leaves", x.count(0), 0);
    }

    private static void fullTexts(Due d) {
        String blanks = " ".repeat(156);
        fault(d, blanks + "v ab", 160);
        fault(d, blanks + "k 12", 160);
        fault(d, blanks + "v  g", 159);
        answer(d, blanks + "v a;", 1);
    }

    private static void oldLeaves(Due d) {
        TruePies x = Due.told("v a;g a;");
        for (int times = 0; times < 2; times++) {
            Due.typeAll(x, "g a;");
            x.court();
            x.comes(0);
            d.due("leaves of old: line(-1)", x.line(-1), 0);
            d.due("leaves of old: fewest(0, 0)", x.fewest(0, 0), -9);
            d.due("leaves of old: goer(0, 4)", x.goer(0, 4), 0);
            d.due("leaves of old: says(0, 0)", x.says(0, 0), -2);
        }
    }

    private static void goodTexts(Due d) {
        answer(d, "", 0);
        answer(d, "     ", 0);
        answer(d, "v a;", 1);
        answer(d, "   v   a   ;   ", 1);
        answer(d, "v a;g f;y abcdef;k2 1;n1;", 5);
        answer(d, "n9;k12 11;k 12 0;k2 0;", 4);
        answer(d, "k2 1 ;n 5 ;", 2);
        answer(d, "v aaaaaa;", 1);
        answer(d, "v a;v a;v a;v a;v a;", 5);
        answer(d, "g a;g a;g a;g a;g a;g a;", 6);
        answer(d, "y aaaaaa;y ffffff;y abcdef;y fedcba;", 4);
        StringBuilder longest = new StringBuilder("v a;");
        while (longest.length() < 160) {
            longest.append(' ');
        }
        answer(d, longest.toString(), 1);
    }

    private static void faults(Due d) {
        // What can't begin an item.
        fault(d, ";", 0);
        fault(d, "a a;", 0);
        fault(d, "va;", 0);
        fault(d, "vg a;", 0);
        fault(d, "5;", 0);
        fault(d, "  x;", 2);
        fault(d, "v a;;", 4);
        fault(d, "v a;b", 4);
        // Rows.
        fault(d, "v;", 1);
        fault(d, "v 1;", 2);
        fault(d, "v g;", 2);
        fault(d, "v abcdeff;", 2);
        fault(d, "v a b;", 4);
        fault(d, "v ab1;", 4);
        fault(d, "g;", 1);
        fault(d, "g az;", 2);
        fault(d, "g abcdefa;", 2);
        fault(d, "y abcde;", 2);
        fault(d, "y abcdefa;", 2);
        fault(d, "y abcdeg;", 2);
        fault(d, "y abc def;", 2);
        // Too many.
        fault(d, "v a;v a;v a;v a;v a; v a;", 21);
        fault(d, "g a;g a;g a;g a;g a;g a;g a;", 24);
        fault(d, "y aaaaaa;y aaaaaa;y aaaaaa;y aaaaaa;y", 36);
        fault(d, "k2 0;k2 0;k2 0;k2 0;", 15);
        fault(d, "n3;n3;", 3);
        // Numbers.
        fault(d, "k1 0;", 1);
        fault(d, "k0 0;", 1);
        fault(d, "k13 0;", 1);
        fault(d, "k7 7;", 3);
        fault(d, "k12 12;", 4);
        fault(d, "k7;", 2);
        fault(d, "k74;", 1);
        fault(d, "k;", 1);
        fault(d, "k a 1;", 2);
        fault(d, "k2 a;", 3);
        fault(d, "k7 4 4;", 5);
        fault(d, "n0;", 1);
        fault(d, "n10;", 1);
        fault(d, "n a;", 2);
        fault(d, "n;", 1);
        fault(d, "n3 3;", 3);
        fault(d, "n03;", 1);
        fault(d, "n00;", 1);
        fault(d, "k7 04;", 3);
        fault(d, "k7 00;", 3);
        fault(d, "n100;", 1);
        fault(d, "n4294967299;", 1);
        fault(d, "k2 99999999999999999999;", 3);
        // Other letters.
        fault(d, "A", 0);
        fault(d, "v A;", 2);
        fault(d, "v aB;", 3);
        fault(d, "v a:", 3);
        fault(d, "v\ta;", 1);
        fault(d, "v a;\n", 4);
        fault(d, "v a;" + (char) 0, 4);
        fault(d, "v a" + (char) 255 + ";", 3);
        fault(d, "v a;" + (char) 160, 4);
        fault(d, "k-2 1;", 1);
        fault(d, "n3`;", 2);
        fault(d, "v a{;", 3);
        fault(d, "n/;", 1);
        fault(d, "n1<;", 2);
        // The first fault counts.
        fault(d, "v x;n100;", 2);
        fault(d, "n100;v x;", 1);
        // Texts that end too early.
        fault(d, "v", 1);
        fault(d, "v  ", 3);
        fault(d, "v a", 3);
        fault(d, "v a   ", 6);
        fault(d, "v a;g", 5);
        fault(d, "y abcdef", 8);
        fault(d, "k", 1);
        fault(d, "k7", 2);
        fault(d, "k7 4", 4);
        fault(d, "n", 1);
        fault(d, "n3 ", 3);
    }

    private static void faultChangesNothing(Due d) {
        TruePies x = Due.told("n5;v ab;g b;y bcdefa;k3 1;");
        x.comes(0);
        x.sees(0, 0, 1);
        x.keep(0);
        Due.typeAll(x, "n7;v c;g a;g a;y aaaaaa;k5 0;v");
        d.due("court() with a fault", x.court(), -10 - 30);
        d.due("a fault: the text stays", x.count(6), 30);
        int[] counts = {1, 1, 1, 1, 5, 1};
        for (int what = 0; what < counts.length; what++) {
            d.due("a fault: count(" + what + ")", x.count(what), counts[what]);
        }
        d.due("a fault: leaf(0, 0)", x.leaf(0, 0), 3);
        d.due("a fault: goer(0, 0)", x.goer(0, 0), 2);
        d.due("a fault: goer(0, 1)", x.goer(0, 1), 1);
        d.due("a fault: sister(0, 0)", x.sister(0, 0), 1);
        d.due("a fault: when(0)", x.when(0), 1);
        d.due("a fault: now(6)", x.now(6), 1);
        d.due("a fault: had(0)", x.had(0), 32);
        d.due("a fault: back(0)", x.back(0), 0);
        Due.typeAll(x, " f;");
        d.due("the text goes on where it was", x.court(), 7);
        d.due("read: leaf(1, 0)", x.leaf(1, 0), 32);
        int[] anew = {2, 2, 1, 1, 7, 0, 0};
        for (int what = 0; what < anew.length; what++) {
            d.due("read: count(" + what + ")", x.count(what), anew[what]);
        }
        d.due("read thrice", x.court(), 0);
        Due.typeAll(x, "v a;");
        d.due("read four times", x.court(), 1);
        int[] last = {1, 0, 0, 0, 3, 0, 0};
        for (int what = 0; what < last.length; what++) {
            d.due("read four times: count(" + what + ")", x.count(what), last[what]);
        }
    }

    private static void answer(Due d, String text, int want) {
        TruePies x = new TruePies();
        Due.typeAll(x, text);
        d.due("court() of '" + text + "'", x.court(), want);
        d.due("letters behind '" + text + "'", x.count(6), want < 0 ? text.length() : 0);
    }

    private static void fault(Due d, String text, int place) {
        answer(d, text, -10 - place);
    }
}
