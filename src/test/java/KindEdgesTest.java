/** Part 4 of the document, sentence by sentence: kinds and THE TRACE, images, what becomes of all when it is read anew. */
public final class KindEdgesTest {
    private static final int BAD = -1, STATE = -2, NO = -1000000;
    private static final long[] ASKED = {1, 11, 101, 1011, 10101, 100001};

    private final Due d = new Due();

    public static void main(String[] args) {
        KindEdgesTest test = new KindEdgesTest();
        test.goerOfOneToSix();
        test.gentAndSamples();
        test.doctorAndWife();
        test.tall();
        test.traceOfEachKind();
        test.traceGoesOn();
        test.noSuchKindOrGoer();
        test.imagesZeroAndOne();
        test.imagesKeepEachPart();
        test.imagesKeepNothingElse();
        test.nothingUndoneBehindBack();
        test.keepIsNotUndone();
        test.readAnew();
        test.readAnewByNoText();
        test.notReadByAFault();
        test.d.end();
    }

    /** "GOER how many TASTES he HAS": one to six, one told twice counts once. */
    private void goerOfOneToSix() {
        TruePies x = Due.told("g a;g ff;g abc;g abcdef;g ffffff;g fa;");
        int[] has = {1, 1, 3, 6, 1, 2};
        for (int g = 0; g < 6; g++) {
            d.due("rate(0, " + g + ")", x.rate(0, g), has[g]);
            d.due("no pies: rate(5, " + g + ")", x.rate(5, g), has[g]);
            d.due("never ROUND: rate(1, " + g + ")", x.rate(1, g), has[g]);
            d.due("never ROUND: rate(3, " + g + ")", x.rate(3, g), 2 * has[g]);
            d.due("no leaves: rate(2, " + g + ")", x.rate(2, g), has[g]);
            d.due("no leaves: rate(4, " + g + ")", x.rate(4, g), has[g] + g);
        }
    }

    /** "GENT up, and how often he went ROUND", "SAMPLES twice up"; his own times alone. */
    private void gentAndSamples() {
        TruePies x = Due.told("n1;v a;g bc;g ab;");
        x.comes(0);
        x.comes(1);
        for (int times = 0; times <= 60; times++) {
            d.due("rate(1, 0)", x.rate(1, 0), 2 + times);
            d.due("rate(3, 0)", x.rate(3, 0), 2 * (2 + times));
            x.says(0, 0);
            x.minutes(1);
        }
        x.says(1, 0);
        d.due("let BY: rate(1, 1)", x.rate(1, 1), 2);
        d.due("let BY: rate(3, 1)", x.rate(3, 1), 4);
    }

    /** "DOCTOR up less how many LEAVES LET him by", "WIFE up, and his number": below 0, too. */
    private void doctorAndWife() {
        TruePies x = Due.told("v a;v a;v a;v a;v ab;g a;g f;g abc;g b;g abcdef;g a;");
        int[] doctor = {-4, 1, -2, 0, 1, -4};
        for (int g = 0; g < 6; g++) {
            d.due("rate(2, " + g + ")", x.rate(2, g), doctor[g]);
            d.due("rate(4, " + g + ")", x.rate(4, g), doctor[g] + g);
        }
        d.due("BAD where a number may be below 0", x.rate(2, 6), NO);
        d.due("BAD where a number may be below 0", x.rate(6, 0), NO);
        d.due("-1 is a rate", Due.told("v a;v a;g a;").rate(2, 0), -1);
        d.due("-2 is a rate", Due.told("v a;v a;v a;g a;").rate(2, 0), -2);
    }

    /** "TALL up, and how many pies are had": by all. */
    private void tall() {
        TruePies x = Due.told("n1;v a;g b;g a;");
        x.comes(0);
        x.comes(1);
        for (int pies = 0; pies <= 40; pies++) {
            d.due("rate(5, 0)", x.rate(5, 0), 1 + pies);
            d.due("rate(5, 1)", x.rate(5, 1), 1 + pies);
            x.says(0, 0);
            x.minutes(1);
        }
        x.undo();
        x.undo();
        d.due("undone: rate(5, 1)", x.rate(5, 1), 41);
    }

    /** "numbers in brackets are added to THE TRACE, 0 at first, as often as rate() asks that body: each once". */
    private void traceOfEachKind() {
        for (int kind = 0; kind < 6; kind++) {
            TruePies x = Due.told("v a;g a;g b;");
            d.due("at first", x.trace(), 0);
            for (int times = 1; times <= 3; times++) {
                x.rate(kind, times % 2);
                d.due("kind " + kind + ", " + times + " times", x.trace(), times * ASKED[kind]);
                d.due("asked again", x.trace(), times * ASKED[kind]);
            }
        }
        TruePies x = Due.told("g a;");
        for (int times = 1; times <= 400; times++) {
            x.rate(5, 0);
        }
        d.due("400 times TALL", x.trace(), 40000400L);
    }

    /** "THE TRACE goes on, as behind undo(), back()". */
    private void traceGoesOn() {
        TruePies x = Due.told("v a;g a;");
        x.keep(0);
        x.comes(0);
        x.rate(3, 0);
        x.undo();
        d.due("behind undo()", x.trace(), 1011);
        x.rate(4, 0);
        x.back(0);
        d.due("behind back()", x.trace(), 11112);
        Due.typeAll(x, "g a;");
        x.court();
        d.due("behind court()", x.trace(), 11112);
        x.rate(5, 0);
        d.due("and on", x.trace(), 111113);
        x.type('!');
        x.court();
        d.due("behind a fault", x.trace(), 111113);
        x.forget();
        x.clear();
        d.due("behind forget(), clear()", x.trace(), 111113);
    }

    /** Promise 23: "NO: BAD"; nothing is added to THE TRACE. */
    private void noSuchKindOrGoer() {
        TruePies x = Due.told("v a;g a;g b;");
        int[] outside = {Integer.MIN_VALUE, -1, 6, 7, Integer.MAX_VALUE};
        for (int kind : outside) {
            d.due("rate(" + kind + ", 0)", x.rate(kind, 0), NO);
            d.due("rate(" + kind + ", 2)", x.rate(kind, 2), NO);
        }
        for (int kind = 0; kind < 6; kind++) {
            for (int g : new int[] {Integer.MIN_VALUE, -1, 2, 6, Integer.MAX_VALUE}) {
                d.due("rate(" + kind + ", " + g + ")", x.rate(kind, g), NO);
            }
            d.due("new: rate(" + kind + ", 0)", new TruePies().rate(kind, 0), NO);
        }
        d.due("THE TRACE", x.trace(), 0);
    }

    /** "IMAGES 0, 1"; promise 25: "STATE: none was kept". */
    private void imagesZeroAndOne() {
        for (int image = 0; image < 2; image++) {
            TruePies x = new TruePies();
            int other = 1 - image;
            d.due("none was kept: back(" + image + ")", x.back(image), STATE);
            d.due("keep(" + image + ") at first", x.keep(image), 0);
            d.due("back(" + image + ") at first", x.back(image), 0);
            d.due("the other was not kept", x.back(other), STATE);
            x.minutes(4);
            d.due("keep(" + other + ")", x.keep(other), 4);
            d.due("back(" + image + ")", x.back(image), 0);
            d.due("back(" + other + ")", x.back(other), 4);
            d.due("back(" + other + ") again", x.back(other), 4);
            x.minutes(5);
            d.due("keep(" + image + ") over the old one", x.keep(image), 9);
            d.due("back(" + other + "), which stays", x.back(other), 4);
            d.due("back(" + image + "), the new one", x.back(image), 9);
            for (int none : new int[] {Integer.MIN_VALUE, -1, 2, Integer.MAX_VALUE}) {
                d.due("keep(" + none + ")", x.keep(none), BAD);
                d.due("back(" + none + ")", x.back(none), BAD);
                d.due("none was kept: back(" + none + ")", new TruePies().back(none), BAD);
            }
            d.due("refused: THE MINUTE", x.now(0), 9);
        }
    }

    /** "IMAGES keep NOW (THE MINUTE, the LEAF, where GOERS are, till when, how often ROUND, pies)": what is done later is gone. */
    private void imagesKeepEachPart() {
        TruePies x = Due.told("n5;v a;v b;v c;g a;g d;g c;g d;");
        x.comes(0);
        x.comes(1);
        x.comes(2);
        x.minutes(3);
        x.says(0, 0);
        x.says(1, 0);
        x.minutes(2);
        d.due("keep(0)", x.keep(0), 5);
        d.due("keep(1)", x.keep(1), 5);
        for (int turn = 0; turn < 4; turn++) {
            x.minutes(9);
            x.says(1, 0);
            x.says(2, 2);
            x.comes(3);
            d.due("back(" + turn % 2 + ")", x.back(turn % 2), 5);
            int[] now = {5, 2, 2, 4, 1};
            for (int what = 0; what < now.length; what++) {
                d.due("back: now(" + what + ")", x.now(what), now[what]);
            }
            int[] where = {3, 2, 1, 0};
            int[] left = {0, 3, 0, 0};
            int[] rounds = {0, 1, 0, 0};
            for (int g = 0; g < 4; g++) {
                d.due("back: goer(" + g + ", 1)", x.goer(g, 1), where[g]);
                d.due("back: goer(" + g + ", 2)", x.goer(g, 2), left[g]);
                d.due("back: goer(" + g + ", 3)", x.goer(g, 3), rounds[g]);
            }
            d.due("back: two minutes more", x.minutes(2), 1);
            d.due("back: the third", x.minutes(1), 2);
        }
    }

    /** "nothing else": not the text, not what is SEEN, not THE TRACE, not the court. */
    private void imagesKeepNothingElse() {
        TruePies x = Due.told("v a;g a;y bcdefa;k5 2;n7;");
        x.sees(0, 0, 1);
        x.type('v');
        x.keep(0);
        x.sees(0, 0, 0);
        x.type(' ');
        x.rate(2, 0);
        x.back(0);
        d.due("SEEN", x.count(5), 2);
        d.due("HAD", x.had(0), 0);
        d.due("letters", x.count(6), 2);
        d.due("THE TRACE", x.trace(), 101);
        x.forget();
        x.clear();
        x.back(0);
        d.due("SEEN, forgotten", x.count(5), 0);
        d.due("letters, cleared", x.count(6), 0);
        int[] counts = {1, 1, 1, 1, 7};
        for (int what = 0; what < counts.length; what++) {
            d.due("count(" + what + ")", x.count(what), counts[what]);
        }
    }

    /** "(nothing can be UNDONE behind back())", then what is done again can be. */
    private void nothingUndoneBehindBack() {
        for (int done = 0; done <= 12; done++) {
            TruePies x = Due.told("v a;g a;");
            for (int i = 0; i < done; i++) {
                x.minutes(1);
            }
            x.keep(0);
            d.due("known behind keep()", x.now(6), Math.min(done, 10));
            d.due("a refused back()", x.back(1), STATE);
            d.due("a bad back()", x.back(2), BAD);
            d.due("known behind a refused back()", x.now(6), Math.min(done, 10));
            d.due("back(0)", x.back(0), done);
            d.due("known behind back()", x.now(6), 0);
            d.due("undo() behind back()", x.undo(), STATE);
            x.comes(0);
            x.minutes(1);
            d.due("undo() of what was done then", x.undo(), 1);
            d.due("undo() of what was done then", x.undo(), 0);
            d.due("and no more", x.undo(), STATE);
            d.due("THE MINUTE", x.now(0), done);
        }
    }

    private void keepIsNotUndone() {
        TruePies x = Due.told("v a;g a;");
        x.minutes(3);
        x.keep(0);
        x.minutes(4);
        d.due("undo() of minutes()", x.undo(), 1);
        d.due("THE MINUTE", x.now(0), 3);
        d.due("undo() of minutes()", x.undo(), 0);
        d.due("THE MINUTE", x.now(0), 0);
        d.due("the image stays", x.back(0), 3);
    }

    /** A court in which all has gone on: each part is told, done, SEEN, kept. */
    private static TruePies gone() {
        TruePies x = Due.told("n5;v ab;v c;v d;g b;g a;g f;y bcdefa;k3 1;");
        x.comes(0);
        x.comes(1);
        x.comes(2);
        x.says(0, 1);
        x.says(1, 5);
        x.minutes(2);
        x.sees(0, 0, 1);
        x.keep(0);
        x.keep(1);
        x.rate(3, 0);
        return x;
    }

    /** "Read anew: as told (what is not told as at first), nothing SEEN, IMAGES are gone, nothing can be UNDONE". */
    private void readAnew() {
        TruePies x = gone();
        Due.typeAll(x, "g f;v f;g a;g b;");
        d.due("court()", x.court(), 4);
        asNew("read anew", x, 1, 3);
        d.due("as told: leaf(0, 0)", x.leaf(0, 0), 32);
        d.due("as told: goer(0, 0)", x.goer(0, 0), 32);
        for (int g = 0; g < 3; g++) {
            for (int what = 1; what <= 3; what++) {
                d.due("as at first: goer(" + g + ", " + what + ")", x.goer(g, what), 0);
            }
            d.due("he comes", x.comes(g), g + 1);
        }
        d.due("undo() of that alone", x.undo(), 2);
    }

    /** The same, by a text that tells nothing. */
    private void readAnewByNoText() {
        TruePies x = gone();
        d.due("court()", x.court(), 0);
        asNew("read anew by no text", x, 0, 0);
        Due.typeAll(x, "v a;g a;");
        d.due("court() again", x.court(), 2);
        asNew("read once more", x, 1, 1);
    }

    private void asNew(String name, TruePies x, int leaves, int goers) {
        int[] counts = {leaves, goers, 0, 0, 3, 0, 0};
        for (int what = 0; what < counts.length; what++) {
            d.due(name + ": count(" + what + ")", x.count(what), counts[what]);
        }
        for (int what : new int[] {0, 1, 2, 3, 4, 6}) {
            d.due(name + ": now(" + what + ")", x.now(what), 0);
        }
        d.due(name + ": leaf()", x.leaf(leaves, 0), BAD);
        d.due(name + ": goer()", x.goer(goers, 0), BAD);
        d.due(name + ": sister()", x.sister(0, 0), BAD);
        d.due(name + ": tale()", x.tale(0, 1), -9);
        d.due(name + ": when()", x.when(0), 0);
        d.due(name + ": had(0)", x.had(0), 64);
        d.due(name + ": forget()", x.forget(), 0);
        d.due(name + ": undo()", x.undo(), STATE);
        d.due(name + ": back(0)", x.back(0), STATE);
        d.due(name + ": back(1)", x.back(1), STATE);
        d.due(name + ": THE TRACE goes on", x.trace(), 1011);
    }

    /** Promise 4: "-10 less FAULT: nothing changes (THE TEXT stays, too)"; told to its end, it is read then. */
    private void notReadByAFault() {
        TruePies x = gone();
        Due.typeAll(x, "v f;g f;g");
        for (int times = 0; times < 3; times++) {
            d.due("court()", x.court(), -19);
            d.due("the text stays", x.count(6), 9);
            d.due("leaves stay", x.count(0), 3);
            d.due("SEEN stays", x.count(5), 1);
            d.due("what is known stays", x.now(6), 6);
            d.due("THE MINUTE stays", x.now(0), 2);
        }
        d.due("back(1)", x.back(1), 2);
        Due.typeAll(x, " a;");
        d.due("court() of the whole text", x.court(), 3);
        asNew("read then", x, 1, 2);
    }
}
