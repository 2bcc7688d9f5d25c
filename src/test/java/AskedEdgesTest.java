/** Part 3 of the document, sentence by sentence: what is asked of things as they are NOW. */
public final class AskedEdgesTest {
    private static final int BAD = -1, STATE = -2, FULL = -3, NONE = -9;
    private static final String SIX = "g a;g b;g c;g d;g e;g f;";

    private final Due d = new Due();

    public static void main(String[] args) {
        AskedEdgesTest test = new AskedEdgesTest();
        test.fewestFromEachLeaf();
        test.fewestLowestTaste();
        test.fewestWhereverHeIs();
        test.fewestNone();
        test.linesOfNoneToSix();
        test.linesOfSeveral();
        test.linesOfThoseAtTheGate();
        test.linesRoundTheLeaves();
        test.linesOfSixOrders();
        test.letsByBits();
        test.coverNone();
        test.coverLeast();
        test.coverOfAll();
        test.seenSix();
        test.seenByTaste();
        test.hadAllOrNone();
        test.hadNothingLearned();
        test.askEachTaste();
        test.askAtMostOne();
        test.d.end();
    }

    private static TruePies allCome(String court) {
        TruePies x = Due.told(court);
        for (int g = 0; g < x.count(1); g++) {
            x.comes(g);
        }
        return x;
    }

    /** "how many times he must say a TASTE at least", 1 to 5, the leaves coming round. */
    private void fewestFromEachLeaf() {
        for (int leaves = 1; leaves <= 5; leaves++) {
            for (int good = 0; good < leaves; good++) {
                String court = "v f;".repeat(good) + "v a;" + "v f;".repeat(leaves - good - 1) + "g a;g b;g b;g b;g b;g b;";
                TruePies x = allCome(court);
                for (int leaf = 0; leaf < leaves; leaf++) {
                    String name = "leaf " + leaf + " of '" + court + "': ";
                    d.due(name + "now(1)", x.now(1), leaf);
                    d.due(name + "fewest(0, 0)", x.fewest(0, 0), Math.floorMod(good - leaf, leaves) + 1);
                    d.due(name + "fewest(0, 1)", x.fewest(0, 1), 0);
                    x.says(leaf + 1, 5);
                }
            }
        }
    }

    /** "the lowest TASTE by which he is let BY then": on that leaf, and of those that he HAS. */
    private void fewestLowestTaste() {
        for (int taste = 0; taste < 6; taste++) {
            char it = (char) ('a' + taste);
            String from = "abcdef".substring(taste);
            TruePies x = Due.told("v " + it + ";v " + from + ";g " + it + ";g abcdef;g " + from + ";");
            for (int g = 0; g < 3; g++) {
                d.due("the lowest from " + it + ": fewest(" + g + ", 1)", x.fewest(g, 1), taste);
                d.due("the lowest from " + it + ": fewest(" + g + ", 0)", x.fewest(g, 0), 1);
            }
        }
        TruePies x = Due.told("v bd;v ace;g fe;g cd;");
        d.due("he must have it: fewest(0, 0)", x.fewest(0, 0), 2);
        d.due("he must have it: fewest(0, 1)", x.fewest(0, 1), 4);
        d.due("on the nearer leaf: fewest(1, 0)", x.fewest(1, 0), 1);
        d.due("on the nearer leaf, though the other has a lower one", x.fewest(1, 1), 3);
    }

    /** "FEWEST of a GOER who is not BY", "(though he is not at the GATE yet)". */
    private void fewestWhereverHeIs() {
        TruePies x = Due.told("v b;v a;g a;");
        d.due("AWAY", x.fewest(0, 0), 2);
        x.comes(0);
        d.due("at the GATE", x.fewest(0, 0), 2);
        x.says(0, 0);
        d.due("ROUND", x.fewest(0, 0), 1);
        d.due("ROUND", x.fewest(0, 1), 0);
        x.minutes(3);
        x.says(0, 0);
        d.due("BY", x.fewest(0, 0), STATE);
        d.due("BY", x.fewest(0, 1), STATE);
        d.due("BY, BAD first", x.fewest(0, 2), BAD);
        d.due("BY, BAD first", x.fewest(0, -1), BAD);
        x.undo();
        d.due("undone: at the GATE", x.fewest(0, 0), 1);
    }

    /** "NONE (no LEAF lets him by)". */
    private void fewestNone() {
        for (int what = 0; what < 2; what++) {
            d.due("no leaves", Due.told("g abcdef;").fewest(0, what), NONE);
            d.due("one leaf", Due.told("v bcdef;g a;").fewest(0, what), NONE);
            d.due("five leaves", Due.told("v a;v b;v c;v d;v e;g f;").fewest(0, what), NONE);
        }
        d.due("the last of five", Due.told("v b;v c;v d;v e;v a;g a;").fewest(0, 0), 5);
        d.due("the last of five", Due.told("v b;v c;v d;v e;v a;g a;").fewest(0, 1), 0);
    }

    private void line(String name, TruePies x, int many, int... order) {
        d.due(name + ": line(-1)", x.line(-1), many);
        for (int k = 0; k <= 5; k++) {
            d.due(name + ": line(" + k + ")", x.line(k), k < order.length ? order[k] : NONE);
        }
        d.due(name + ": line(-2)", x.line(-2), BAD);
        d.due(name + ": line(6)", x.line(6), BAD);
    }

    /** "how many; the k-th; NONE (not so many at the GATE)", none to six of them, with and without leaves. */
    private void linesOfNoneToSix() {
        for (int many = 0; many <= 6; many++) {
            int[] order = new int[many];
            for (int i = 0; i < many; i++) {
                order[i] = i;
            }
            String goers = "g a;".repeat(many);
            line("all are let by of " + many, allCome("v a;" + goers), many, order);
            line("none is let by of " + many, allCome("v b;" + goers), 0, order);
            line("no leaves for " + many, allCome(goers), 0, order);
            line("all are AWAY of " + many, Due.told("v a;" + goers), 0);
        }
    }

    /** "of several the first (the lowest one first, then the second ..)". */
    private void linesOfSeveral() {
        line("the second leaf only", allCome("v f;v a;g a;g a;g a;"), 1, 0, 1, 2);
        line("0 must be the second", allCome("v b;v a;g a;g b;g b;"), 3, 1, 0, 2);
        line("first one low, though the others swap", allCome("v a;v c;v b;g a;g b;g c;"), 3, 0, 2, 1);
        line("most before first", allCome("v b;v ab;g ab;g b;g a;"), 3, 0, 2, 1);
        line("a high one first, as just that lets most by", allCome("v c;v a;v b;g a;g b;g c;"), 3, 2, 0, 1);
        line("reversed", allCome("v e;v d;v c;v b;v a;g a;g b;g c;g d;g e;"), 5, 4, 3, 2, 1, 0);
    }

    /** "all who are at the GATE": not those who are AWAY, ROUND or BY. */
    private void linesOfThoseAtTheGate() {
        TruePies x = Due.told("v a;v b;g a;g b;g a;g b;g c;g a;");
        x.comes(1);
        x.comes(2);
        x.comes(4);
        x.comes(5);
        line("0 and 3 are AWAY", x, 3, 2, 1, 5, 4);
        x.says(2, 0);
        x.says(4, 0);
        line("2 is BY, 4 is ROUND", x, 2, 5, 1);
        x.minutes(2);
        line("4 is ROUND yet", x, 2, 5, 1);
        x.minutes(1);
        line("4 is at the GATE again", x, 2, 4, 1, 5);
        x.undo();
        line("4 is ROUND, undone", x, 2, 5, 1);
    }

    /** The leaf that is NOW is the first one's, behind the last leaf comes the first. */
    private void linesRoundTheLeaves() {
        TruePies x = allCome("v a;v b;v c;g a;g b;g c;g f;g f;");
        line("from leaf 0", x, 3, 0, 1, 2, 3, 4);
        x.says(4, 0);
        line("from leaf 1", x, 3, 1, 2, 0, 3);
        x.says(3, 0);
        line("from leaf 2", x, 3, 2, 0, 1);
        line("two leaves, six goers", allCome("v a;v b;g b;g b;g b;g a;g a;g a;"), 6, 3, 0, 4, 1, 5, 2);
    }

    /** All 720 orders of six goers for five leaves are weighed: each goer has just one leaf, the sixth the first again. */
    private void linesOfSixOrders() {
        for (int turn = 0; turn < 6; turn++) {
            StringBuilder court = new StringBuilder("v a;v b;v c;v d;v e;");
            int[] order = new int[6];
            for (int g = 0; g < 6; g++) {
                int leaf = (g + turn) % 6;
                court.append("g ").append((char) ('a' + leaf % 5)).append(';');
                order[leaf] = g;
            }
            // The leaf a comes first and last: of the two goers who have it the lower one goes first.
            if (order[0] > order[5]) {
                int low = order[5];
                order[5] = order[0];
                order[0] = low;
            }
            line("'" + court + "'", allCome(court.toString()), 6, order);
        }
    }

    /** "LEAVES that LET a GOER by (bits): on which some TASTE COUNTS that he HAS." */
    private void letsByBits() {
        TruePies x = Due.told("v a;v b;v abcdef;v f;v ef;" + SIX);
        int[] leaves = {1, 2, 63, 32, 48};
        int[] goers = {1 | 4, 2 | 4, 4, 4, 4 | 16, 4 | 8 | 16};
        for (int l = 0; l < 5; l++) {
            d.due("leaf(" + l + ", 1)", x.leaf(l, 1), leaves[l]);
        }
        for (int g = 0; g < 6; g++) {
            d.due("goer(" + g + ", 4)", x.goer(g, 4), goers[g]);
        }
        d.due("nobody: leaf(0, 1)", Due.told("v abcdef;").leaf(0, 1), 0);
        d.due("no leaf: goer(0, 4)", Due.told("g abcdef;").goer(0, 4), 0);
        TruePies all = Due.told("v f;v f;v f;v f;v f;g af;g fe;g f;g f;g f;g f;");
        d.due("all goers", all.leaf(4, 1), 63);
        d.due("all leaves", all.goer(5, 4), 31);
    }

    private void cover(String court, int want) {
        d.due("now(5) of '" + court + "'", Due.told(court).now(5), want);
    }

    /** COVER: "NONE"; without GOERS no leaf is needed. */
    private void coverNone() {
        cover("", 0);
        cover("v a;v b;v c;v d;v e;", 0);
        cover("g a;", NONE);
        cover(SIX, NONE);
        cover("v a;v b;v c;v d;v e;" + SIX, NONE);
        cover("v bcdef;g a;", NONE);
        cover("v abcde;g a;g f;", NONE);
    }

    /** "the fewest LEAVES (bits, of several sets the least)". */
    private void coverLeast() {
        cover("v a;g a;", 1);
        cover("v a;v a;v a;v a;v a;g a;", 1);
        cover("v b;v b;v b;v b;v a;g a;", 16);
        cover("v abc;v def;v abcdef;" + SIX, 4);
        cover("v a;v b;v c;v d;v ef;" + SIX, 31);
        cover("v a;v bcdef;v b;v acdef;v f;" + SIX, 3);
        cover("v b;v acdef;v a;v bcdef;v f;" + SIX, 3);
        cover("v a;v b;v bcdef;v f;v acdef;" + SIX, 5);
        cover("v ab;v cd;v ef;v abc;v def;" + SIX, 24);
        // Two high leaves are fewer than three low ones.
        cover("v a;v b;v c;v ab;v c;g a;g b;g c;", 12);
    }

    /** "of which one LETS each GOER by": wherever he is. */
    private void coverOfAll() {
        TruePies x = Due.told("v a;v b;v c;g a;g b;g c;");
        d.due("AWAY", x.now(5), 7);
        x.comes(0);
        x.says(0, 0);
        d.due("one is BY", x.now(5), 7);
        x.comes(1);
        x.says(1, 0);
        d.due("one is ROUND", x.now(5), 7);
    }

    /** "SEEN (6 at most)": "let BY (1), or not (0)"; "FULL". */
    private void seenSix() {
        TruePies x = Due.told("v abc;v d;");
        d.due("nothing is SEEN", x.count(5), 0);
        d.due("forget() nothing", x.forget(), 0);
        for (int turn = 0; turn < 3; turn++) {
            for (int many = 1; many <= 6; many++) {
                d.due("sees(5, 1, 0)", x.sees(5, 1, 0), many);
                d.due("count(5)", x.count(5), many);
            }
            d.due("the seventh", x.sees(5, 1, 0), FULL);
            d.due("the seventh, another one", x.sees(0, 0, 1), FULL);
            d.due("full, BAD first: taste", x.sees(6, 0, 1), BAD);
            d.due("full, BAD first: leaf", x.sees(0, 2, 1), BAD);
            d.due("full, BAD first: by", x.sees(0, 0, 2), BAD);
            d.due("count(5)", x.count(5), 6);
            d.due("nothing was learned", x.had(0), 64);
            d.due("nothing was learned: ask(0)", x.ask(0), 0);
            d.due("nothing was learned: ask(1)", x.ask(1), 3);
            d.due("forget()", x.forget(), 6);
            d.due("forget() again", x.forget(), 0);
            d.due("count(5) behind forget()", x.count(5), 0);
        }
        d.due("the sixth counts, too", sixth(x), 0);
    }

    private static int sixth(TruePies x) {
        for (int i = 0; i < 5; i++) {
            x.sees(0, 0, 1);
        }
        x.sees(0, 0, 0);
        return x.had(0);
    }

    /** What is learned by one that was SEEN: he has it, he has it not, nothing, it can't be. */
    private void seenByTaste() {
        for (int taste = 0; taste < 6; taste++) {
            String others = "abcdef".replace(String.valueOf((char) ('a' + taste)), "");
            TruePies x = Due.told("v abcdef;v " + others + ";");
            int bit = 1 << taste;
            x.sees(taste, 0, 1);
            had("let BY: " + taste, x, 32, bit, 63);
            x.forget();
            x.sees(taste, 0, 0);
            had("not let BY: " + taste, x, 32, 0, 63 - bit);
            x.forget();
            x.sees(taste, 1, 0);
            had("not let BY, and it does not count: " + taste, x, 64, 0, 63);
            x.sees(taste, 1, 1);
            had("let BY, though it does not count: " + taste, x, 0, NONE, 0);
            x.forget();
            had("forgotten: " + taste, x, 64, 0, 63);
        }
    }

    private void had(String name, TruePies x, int many, int inAll, int inSome) {
        d.due(name + ": had(0)", x.had(0), many);
        d.due(name + ": had(1)", x.had(1), inAll);
        d.due(name + ": had(2)", x.had(2), inSome);
        d.due(name + ": had(-1)", x.had(-1), BAD);
        d.due(name + ": had(3)", x.had(3), BAD);
    }

    /** "HAD: sets of TASTES (of all 64)": from 64 down to one, all tastes or none of them; then no set at all. */
    private void hadAllOrNone() {
        for (int by = 0; by < 2; by++) {
            TruePies x = Due.told("v abcdef;");
            had("nothing is SEEN", x, 64, 0, 63);
            int known = 0;
            for (int taste = 0; taste < 6; taste++) {
                x.sees(taste, 0, by);
                known |= 1 << taste;
                had("by " + by + ", " + (taste + 1) + " known", x, 32 >> taste, by * known, by == 1 ? 63 : 63 - known);
            }
        }
        TruePies x = Due.told("v a;");
        x.sees(0, 0, 1);
        x.sees(0, 0, 0);
        had("it can't be", x, 0, NONE, 0);
        had("a new object", new TruePies(), 64, 0, 63);
    }

    /** What goers do is not SEEN, and what is SEEN is not done. */
    private void hadNothingLearned() {
        TruePies x = allCome("v a;g a;");
        x.says(0, 0);
        had("said, not SEEN", x, 64, 0, 63);
        x.sees(0, 0, 1);
        d.due("SEEN, not said: pies", x.now(2), 1);
        d.due("SEEN, not said: known", x.now(6), 2);
        x.undo();
        x.undo();
        had("undo() leaves what is SEEN", x, 32, 1, 63);
    }

    /** "the TASTE by which .. the greater part of these is smallest, of several the lowest". */
    private void askEachTaste() {
        TruePies x = Due.told("v abcdef;v f;v bd;v a;");
        d.due("several: the lowest", x.ask(0), 0);
        for (int taste = 0; taste < 5; taste++) {
            d.due("f alone can be learned", x.ask(1), 5);
            d.due("b or d", x.ask(2), taste <= 1 ? 1 : taste <= 3 ? 3 : 0);
            d.due("a, or nothing: the lowest", x.ask(3), 0);
            x.sees(taste, 0, taste % 2);
            d.due("the lowest that is not known", x.ask(0), taste + 1);
        }
        d.due("two can be", x.had(0), 2);
        d.due("two can be, nothing is learned on that leaf", x.ask(2), 0);
        d.due("ask(-1)", x.ask(-1), BAD);
        d.due("ask(4)", x.ask(4), BAD);
    }

    /** "NONE (one can be at most)": two, one, none. */
    private void askAtMostOne() {
        TruePies x = Due.told("v abcdef;v a;");
        for (int taste = 5; taste >= 0; taste--) {
            d.due(x.had(0) + " can be", x.ask(0), 0);
            x.sees(taste, 0, 1);
        }
        d.due("one can be", x.had(0), 1);
        d.due("one can be: ask(0)", x.ask(0), NONE);
        d.due("one can be: ask(1)", x.ask(1), NONE);
        d.due("one can be: ask(2)", x.ask(2), BAD);
        d.due("one can be: ask(-1)", x.ask(-1), BAD);
        x.forget();
        x.sees(1, 1, 1);
        d.due("none can be", x.had(0), 0);
        d.due("none can be: ask(0)", x.ask(0), NONE);
        d.due("none can be: ask(2)", x.ask(2), BAD);
        d.due("no leaves: ask(0)", new TruePies().ask(0), BAD);
    }
}
