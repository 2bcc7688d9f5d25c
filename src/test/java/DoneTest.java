/** Promises 9 to 12, 24, 25: comes, says, minutes, undo, keep, back. */
public final class DoneTest {
    public static void main(String[] args) {
        Due d = new Due();
        coming(d);
        saying(d);
        minutes(d);
        lastMinute(d);
        undoing(d);
        tillWhen(d);
        undoingTen(d);
        refusedIsNotUndone(d);
        images(d);
        imagesKeepNothingElse(d);
        d.end();
    }

    private static void coming(Due d) {
        TruePies x = Due.told("v a;g a;g b;g c;");
        d.due("comes(2)", x.comes(2), 1);
        d.due("comes(0)", x.comes(0), 2);
        d.due("comes(0) again", x.comes(0), -2);
        d.due("comes(-1)", x.comes(-1), -1);
        d.due("comes(3)", x.comes(3), -1);
        d.due("comes(6)", x.comes(6), -1);
        x.says(0, 0);
        d.due("comes(0), who is BY", x.comes(0), -2);
        x.says(2, 2);
        d.due("comes(2), who is ROUND", x.comes(2), -2);
        d.due("comes(1)", x.comes(1), 1);
    }

    private static void saying(Due d) {
        TruePies x = Due.told("v ab;v cd;g bd;g a;g bd;g bd;");
        d.due("says(0, 1), who is AWAY", x.says(0, 1), -2);
        for (int g = 0; g < 4; g++) {
            x.comes(g);
        }
        d.due("says(4, 0)", x.says(4, 0), -1);
        d.due("says(-1, 0)", x.says(-1, 0), -1);
        d.due("says(0, 6)", x.says(0, 6), -1);
        d.due("says(0, -1)", x.says(0, -1), -1);
        d.due("nothing was said: now(1)", x.now(1), 0);
        d.due("nothing was said: now(2)", x.now(2), 0);
        d.due("he has it, it does not count", x.says(0, 3), 0);
        d.due("the next leaf", x.now(1), 1);
        d.due("it counts, he does not have it", x.says(1, 2), 0);
        d.due("behind the last leaf the first", x.now(1), 0);
        d.due("he has it and it counts", x.says(2, 1), 1);
        d.due("he has it and it counts on the next", x.says(3, 3), 1);
        d.due("pies", x.now(2), 4);
        d.due("who is BY", x.now(4), 12);
        d.due("says(0, 3), who is ROUND", x.says(0, 3), -2);
        d.due("says(2, 1), who is BY", x.says(2, 1), -2);
        d.due("says(2, 6): BAD first", x.says(2, 6), -1);

        x = Due.told("g a;");
        x.comes(0);
        d.due("no leaves: says(0, 0)", x.says(0, 0), -2);
        d.due("no leaves: says(0, 6)", x.says(0, 6), -1);
        d.due("no leaves: he stays", x.goer(0, 1), 1);
    }

    private static void minutes(Due d) {
        TruePies x = Due.told("v a;g b;g b;g b;");
        x.comes(0);
        x.comes(1);
        x.says(0, 0);
        d.due("minutes(0)", x.minutes(0), -1);
        d.due("minutes(10)", x.minutes(10), -1);
        d.due("minutes(-1)", x.minutes(-1), -1);
        d.due("minutes(greatest)", x.minutes(Integer.MAX_VALUE), -1);
        d.due("minutes(2)", x.minutes(2), 1);
        x.says(1, 0);
        d.due("3 minutes at first", x.goer(1, 2), 3);
        d.due("minutes(1), one is back", x.minutes(1), 1);
        d.due("who is back", x.now(3), 1);
        d.due("minutes(9), both are", x.minutes(9), 2);
        d.due("now(0)", x.now(0), 12);
        x.says(0, 0);
        d.due("round twice", x.goer(0, 3), 2);
        d.due("till when anew", x.goer(0, 2), 3);
    }

    private static void lastMinute(Due d) {
        TruePies x = Due.told("n9;v a;g b;");
        x.comes(0);
        for (int i = 0; i < 110; i++) {
            x.minutes(9);
        }
        d.due("minute 990", x.now(0), 990);
        x.minutes(8);
        d.due("minutes(2) at 998", x.minutes(2), -2);
        d.due("minutes(10) at 998: BAD first", x.minutes(10), -1);
        x.says(0, 0);
        d.due("minutes(1) at 998", x.minutes(1), 0);
        d.due("minute 999", x.now(0), 999);
        d.due("minutes(1) at 999", x.minutes(1), -2);
        d.due("round beyond the last minute", x.goer(0, 2), 8);
    }

    private static void undoing(Due d) {
        TruePies x = Due.told("v a;v b;g b;");
        x.comes(0);
        x.says(0, 0);
        x.minutes(3);
        x.says(0, 1);
        d.due("by", x.goer(0, 1), 3);
        d.due("undo() of says()", x.undo(), 3);
        d.due("at the gate again", x.goer(0, 1), 1);
        d.due("its leaf", x.now(1), 1);
        d.due("its pies", x.now(2), 1);
        d.due("undo() of minutes()", x.undo(), 2);
        d.due("its minute", x.now(0), 0);
        d.due("round again", x.goer(0, 1), 2);
        d.due("till when", x.goer(0, 2), 3);
        d.due("undo() of says()", x.undo(), 1);
        d.due("how often round", x.goer(0, 3), 0);
        d.due("its leaf", x.now(1), 0);
        d.due("undo() of comes()", x.undo(), 0);
        d.due("away again", x.goer(0, 1), 0);
        d.due("undo() of nothing", x.undo(), -2);
        d.due("comes(0) anew", x.comes(0), 1);
        d.due("now(6) anew", x.now(6), 1);
    }

    private static void tillWhen(Due d) {
        TruePies x = Due.told("v a;g b;");
        x.comes(0);
        x.says(0, 0);
        x.minutes(1);
        x.keep(0);
        x.minutes(9);
        x.says(0, 0);
        d.due("round, the second time", x.goer(0, 2), 3);
        x.undo();
        x.undo();
        d.due("undone: till when, the first time", x.goer(0, 2), 2);
        x.minutes(9);
        x.says(0, 0);
        x.back(0);
        d.due("back: till when, the first time", x.goer(0, 2), 2);
        d.due("back: at the gate by then", x.minutes(2), 1);
    }

    private static void undoingTen(Due d) {
        TruePies x = new TruePies();
        for (int i = 1; i <= 13; i++) {
            x.minutes(1);
            d.due("now(6) behind " + i, x.now(6), Math.min(10, i));
        }
        for (int left = 9; left >= 0; left--) {
            d.due("undo(), " + left + " are left", x.undo(), left);
            d.due("its minute", x.now(0), left + 3);
        }
        d.due("the eleventh is lost", x.undo(), -2);
        d.due("the minute stays", x.now(0), 3);
        x.minutes(5);
        d.due("minute 8", x.now(0), 8);
        d.due("undo() of that", x.undo(), 0);
        d.due("minute 3", x.now(0), 3);
    }

    private static void refusedIsNotUndone(Due d) {
        TruePies x = Due.told("v a;g a;");
        x.comes(0);
        x.comes(0);
        x.comes(7);
        x.says(0, 9);
        x.minutes(0);
        x.sees(0, 0, 1);
        x.keep(0);
        x.rate(0, 0);
        d.due("refused calls and others are not known", x.now(6), 1);
        d.due("undo()", x.undo(), 0);
        d.due("undo() leaves what is seen", x.count(5), 1);
        d.due("undo() leaves the trace", x.trace(), 1);
        d.due("undo() leaves the image", x.back(0), 0);
    }

    private static void images(Due d) {
        TruePies x = Due.told("v a;v b;g b;g a;");
        x.comes(0);
        x.minutes(2);
        x.says(0, 0);
        d.due("keep(0)", x.keep(0), 2);
        x.minutes(9);
        x.comes(1);
        x.says(0, 1);
        x.says(1, 1);
        d.due("keep(1)", x.keep(1), 11);
        d.due("keep(-1)", x.keep(-1), -1);
        d.due("keep(2)", x.keep(2), -1);
        d.due("back(-1)", x.back(-1), -1);
        d.due("back(2)", x.back(2), -1);
        d.due("refused: now(6)", x.now(6), 7);
        d.due("back(0)", x.back(0), 2);
        int[] now = {2, 1, 1, 0, 0};
        for (int what = 0; what < now.length; what++) {
            d.due("back: now(" + what + ")", x.now(what), now[what]);
        }
        d.due("back: now(6)", x.now(6), 0);
        d.due("back: undo()", x.undo(), -2);
        d.due("back: goer(0, 1)", x.goer(0, 1), 2);
        d.due("back: goer(0, 2)", x.goer(0, 2), 3);
        d.due("back: goer(0, 3)", x.goer(0, 3), 1);
        d.due("back: goer(1, 1)", x.goer(1, 1), 0);
        x.minutes(3);
        d.due("an image stays as it is", x.back(0), 2);
        d.due("still round", x.goer(0, 2), 3);
        d.due("back(1)", x.back(1), 11);
        d.due("back(1): who is BY", x.now(4), 1);
        d.due("back(1): goer(1, 2)", x.goer(1, 2), 3);
        d.due("keep(0) over the old", x.keep(0), 11);
        x.minutes(1);
        d.due("back(0) is the new", x.back(0), 11);
    }

    private static void imagesKeepNothingElse(Due d) {
        TruePies x = Due.told("v a;g a;");
        d.due("back(1) before keep()", x.back(1), -2);
        x.keep(1);
        d.due("back(0), as just 1 was kept", x.back(0), -2);
        x.minutes(1);
        d.due("a refused back() leaves what may be undone", x.back(0), -2);
        d.due("now(6)", x.now(6), 1);
        x.sees(0, 0, 1);
        x.type('v');
        x.rate(0, 0);
        x.back(1);
        d.due("back() leaves what is seen", x.count(5), 1);
        d.due("back() leaves the text", x.count(6), 1);
        d.due("back() leaves the trace", x.trace(), 1);
    }
}
