import java.util.ArrayList;
import java.util.List;

/** Part 2 of the document, sentence by sentence: goers who come, say, go round the lane, minutes, all of it undone. */
public final class DoneEdgesTest {
    private static final int AWAY = 0, GATE = 1, ROUND = 2, BY = 3;
    private static final int STATE = -2;

    private final Due d = new Due();

    public static void main(String[] args) {
        DoneEdgesTest test = new DoneEdgesTest();
        test.atFirst();
        test.onlyOneWhoIsAway();
        test.onlyOneAtTheGate();
        test.letByIfHeHasItAndItCounts();
        test.roundTheLane();
        test.roundTheLaneAtOnce();
        test.eachHasHisOwnLane();
        test.roundAgain();
        test.theNextLeaf();
        test.pies();
        test.pies999();
        test.minutesOneToNine();
        test.minute999();
        test.roundForGood();
        test.tenAreKnown();
        test.ringOfTen();
        test.whatIsUndone();
        test.whatIsNotUndone();
        test.refusedAreNotKnown();
        test.call512();
        test.d.end();
    }

    private static TruePies atTheGate(String court, int many) {
        TruePies x = Due.told(court);
        for (int g = 0; g < many; g++) {
            x.comes(g);
        }
        return x;
    }

    /** "THE MINUTE is 0 at first .., the LEAF is 0 .., all GOERS are AWAY, 0 pies are had." */
    private void atFirst() {
        TruePies x = Due.told("v a;v b;g a;g b;g c;g d;g e;g f;");
        for (int what : new int[] {0, 1, 2, 3, 4, 6}) {
            d.due("at first: now(" + what + ")", x.now(what), 0);
        }
        for (int g = 0; g < 6; g++) {
            d.due("at first: goer(" + g + ", 1)", x.goer(g, 1), AWAY);
            d.due("at first: goer(" + g + ", 2)", x.goer(g, 2), 0);
            d.due("at first: goer(" + g + ", 3)", x.goer(g, 3), 0);
        }
    }

    /** "COME: one who is AWAY is at the GATE."; promise 9: "how many are at the GATE"; "STATE: he is not AWAY". */
    private void onlyOneWhoIsAway() {
        TruePies x = Due.told("v a;g a;g b;g a;g a;g a;g a;");
        for (int many = 1; many <= 6; many++) {
            int g = 6 - many;
            d.due("comes(" + g + ")", x.comes(g), many);
            d.due("he is at the GATE", x.goer(g, 1), GATE);
            d.due("comes(" + g + ") again", x.comes(g), STATE);
            d.due("who is at the GATE", x.now(3), 63 & 63 << g);
        }
        x.says(0, 0);
        x.says(1, 0);
        d.due("comes(0), who is BY", x.comes(0), STATE);
        d.due("comes(1), who is ROUND", x.comes(1), STATE);
        d.due("he is BY yet", x.goer(0, 1), BY);
        d.due("he is ROUND yet", x.goer(1, 1), ROUND);
    }

    /** "SAID: one at the GATE says"; promise 10: "STATE: he is not at the GATE, there are no LEAVES". */
    private void onlyOneAtTheGate() {
        TruePies x = Due.told("v a;g a;g b;g c;");
        d.due("says() of one who is AWAY", x.says(0, 0), STATE);
        x.comes(0);
        x.comes(1);
        d.due("says() of one at the GATE", x.says(0, 0), 1);
        d.due("says() of one who is BY", x.says(0, 0), STATE);
        d.due("says() of another at the GATE", x.says(1, 1), 0);
        d.due("says() of one who is ROUND", x.says(1, 1), STATE);
        d.due("two pies", x.now(2), 2);
        TruePies none = atTheGate("g abcdef;g a;", 1);
        for (int taste = 0; taste < 6; taste++) {
            d.due("no leaves: says(0, " + taste + ")", none.says(0, taste), STATE);
            d.due("no leaves: says(1, " + taste + ")", none.says(1, taste), STATE);
        }
        d.due("no leaves: no pies", none.now(2), 0);
        d.due("no leaves: the leaf", none.now(1), 0);
        d.due("no leaves: he stays at the GATE", none.goer(0, 1), GATE);
        d.due("no leaves: just comes() may be undone", none.now(6), 1);
    }

    /** "he is let BY, if he HAS it, and it COUNTS on that; else he goes ROUND". */
    private void letByIfHeHasItAndItCounts() {
        for (int taste = 0; taste < 6; taste++) {
            char it = (char) ('a' + taste);
            char other = (char) ('a' + (taste + 1) % 6);
            said("v " + it + ";g " + it + ";", taste, 1);
            said("v " + it + ";g " + other + ";", taste, 0);
            said("v " + other + ";g " + it + ";", taste, 0);
            said("v " + other + ";g " + other + ";", taste, 0);
            said("v abcdef;g abcdef;", taste, 1);
            // What counts on the leaf that is next does not count yet.
            said("v " + other + ";v " + it + ";g " + it + ";", taste, 0);
        }
    }

    private void said(String court, int taste, int by) {
        TruePies x = atTheGate(court, 1);
        d.due("says(0, " + taste + ") of '" + court + "'", x.says(0, taste), by);
        d.due("where he is", x.goer(0, 1), by == 1 ? BY : ROUND);
        d.due("who is BY", x.now(4), by);
        d.due("who is at the GATE", x.now(3), 0);
        d.due("in how many minutes", x.goer(0, 2), by == 1 ? 0 : 3);
        d.due("how often he went ROUND", x.goer(0, 3), 1 - by);
    }

    /** "he is at the GATE again as soon as LANE minutes went by": minute by minute. */
    private void roundTheLane() {
        for (int lane = 1; lane <= 9; lane++) {
            TruePies x = atTheGate("n" + lane + ";v a;g b;", 1);
            x.minutes(5);
            x.says(0, 0);
            for (int left = lane; left >= 1; left--) {
                d.due("ROUND for " + left + " of " + lane, x.goer(0, 2), left);
                d.due("where he is", x.goer(0, 1), ROUND);
                d.due("minutes(1): how many are at the GATE", x.minutes(1), left == 1 ? 1 : 0);
            }
            d.due("at the GATE behind " + lane, x.goer(0, 1), GATE);
            d.due("in how many minutes then", x.goer(0, 2), 0);
            d.due("how often he went ROUND", x.goer(0, 3), 1);
        }
    }

    private void roundTheLaneAtOnce() {
        for (int lane = 1; lane <= 9; lane++) {
            for (int n = 1; n <= 9; n++) {
                TruePies x = atTheGate("n" + lane + ";v a;g b;", 1);
                x.says(0, 0);
                String name = "lane " + lane + ", minutes(" + n + ")";
                d.due(name, x.minutes(n), n >= lane ? 1 : 0);
                d.due(name + ": where he is", x.goer(0, 1), n >= lane ? GATE : ROUND);
                d.due(name + ": in how many", x.goer(0, 2), Math.max(0, lane - n));
            }
        }
    }

    private void eachHasHisOwnLane() {
        TruePies x = atTheGate("n4;v a;g b;g b;g b;g b;g b;g b;", 6);
        for (int g = 0; g < 6; g++) {
            x.says(g, 0);
            x.minutes(1);
        }
        // Goer g said at minute g; now it is 6, and those of minutes 0 to 2 are back.
        int[] left = {0, 0, 0, 1, 2, 3};
        for (int g = 0; g < 6; g++) {
            d.due("goer(" + g + ", 2)", x.goer(g, 2), left[g]);
            d.due("goer(" + g + ", 1)", x.goer(g, 1), left[g] == 0 ? GATE : ROUND);
        }
        d.due("who is at the GATE", x.now(3), 7);
        d.due("two more", x.minutes(2), 5);
        d.due("who is at the GATE then", x.now(3), 31);
    }

    private void roundAgain() {
        TruePies x = atTheGate("n1;v a;v b;v c;g d;", 1);
        for (int times = 1; times <= 100; times++) {
            d.due("says()", x.says(0, times % 6), 0);
            d.due("how often ROUND", x.goer(0, 3), times);
            d.due("back at the GATE", x.minutes(1), 1);
        }
        d.due("pies", x.now(2), 100);
        d.due("the leaf", x.now(1), 100 % 3);
    }

    /** "The LEAF is the next one then (behind the last one the first)", let BY or not. */
    private void theNextLeaf() {
        for (int leaves = 1; leaves <= 5; leaves++) {
            TruePies x = atTheGate("v a;".repeat(leaves) + "g a;g a;g a;g a;g a;g a;", 6);
            for (int said = 1; said <= 6; said++) {
                x.says(said - 1, said % 2);
                d.due("leaf behind " + said + " of " + leaves, x.now(1), said % leaves);
            }
            x.minutes(9);
            d.due("minutes() leave the leaf", x.now(1), 6 % leaves);
        }
    }

    /** "a pie more is had", let BY or not; none by a refused call. */
    private void pies() {
        TruePies x = atTheGate("v a;g a;g b;g a;", 3);
        for (int g = 0; g < 3; g++) {
            x.says(g, 0);
            d.due("pies", x.now(2), g + 1);
            x.says(g, 0);
            x.says(g, 6);
            d.due("refused: pies", x.now(2), g + 1);
        }
    }

    /** "a pie more is had (999 at most)": 512 calls can't get there, and later answers are free; the class keeps to it yet. */
    private void pies999() {
        TruePies x = atTheGate("n1;v a;g b;g b;g b;g b;g b;g b;", 6);
        for (int said = 1; said <= 1010; said++) {
            x.says(said % 6, 0);
            if (said >= 990) {
                d.due("pies behind " + said, x.now(2), Math.min(said, 999));
            }
            if (said % 6 == 0) {
                x.minutes(1);
            }
        }
    }

    /** "MINUTES go by (1 .. 9)". */
    private void minutesOneToNine() {
        TruePies x = new TruePies();
        int minute = 0;
        for (int n = -1; n <= 11; n++) {
            boolean taken = n >= 1 && n <= 9;
            d.due("minutes(" + n + ")", x.minutes(n), taken ? 0 : -1);
            minute += taken ? n : 0;
            d.due("THE MINUTE", x.now(0), minute);
        }
    }

    /** "(999 at most)"; promise 11: "STATE: it would be later than 999". */
    private void minute999() {
        for (int n = 1; n <= 9; n++) {
            TruePies x = minute990();
            for (int i = 0; i < 9 - n; i++) {
                x.minutes(1);
            }
            // 999 - n: just so many minutes are left.
            for (int more = n + 1; more <= 9; more++) {
                d.due("minutes(" + more + ") at " + (999 - n), x.minutes(more), STATE);
            }
            d.due("refused: THE MINUTE", x.now(0), 999 - n);
            d.due("minutes(" + n + ") at " + (999 - n), x.minutes(n), 0);
            d.due("THE MINUTE", x.now(0), 999);
            for (int more = 0; more <= 10; more++) {
                d.due("minutes(" + more + ") at 999", x.minutes(more), more >= 1 && more <= 9 ? STATE : -1);
            }
            d.due("THE MINUTE stays", x.now(0), 999);
            d.due("undo() at 999", x.undo(), 9);
            d.due("undone: THE MINUTE", x.now(0), 999 - n);
        }
    }

    private static TruePies minute990() {
        TruePies x = Due.told("n9;v a;g b;g a;");
        for (int i = 0; i < 110; i++) {
            x.minutes(9);
        }
        return x;
    }

    private void roundForGood() {
        TruePies x = minute990();
        x.comes(0);
        x.says(0, 0);
        d.due("ROUND till 999", x.goer(0, 2), 9);
        d.due("back at 999", x.minutes(9), 1);
        d.due("says() at 999", x.says(0, 0), 0);
        d.due("ROUND beyond 999", x.goer(0, 2), 9);
        d.due("and no minute more", x.minutes(1), STATE);
        d.due("comes() at 999", x.comes(1), 1);
        d.due("says() at 999", x.says(1, 0), 1);
        d.due("fewest() of one who is ROUND for good", x.fewest(0, 0), -9);
    }

    /** "(10 are known, older ones are lost)": each number of calls from none to 25. */
    private void tenAreKnown() {
        for (int many = 0; many <= 25; many++) {
            TruePies x = new TruePies();
            for (int i = 1; i <= many; i++) {
                x.minutes(1);
                d.due("now(6) behind " + i, x.now(6), Math.min(i, 10));
            }
            int known = Math.min(many, 10);
            for (int left = known - 1; left >= 0; left--) {
                d.due("undo(), " + left + " left of " + many, x.undo(), left);
                d.due("THE MINUTE", x.now(0), many - known + left);
                d.due("now(6)", x.now(6), left);
            }
            d.due("undo() of none, " + many, x.undo(), STATE);
            d.due("undo() of none again", x.undo(), STATE);
            d.due("THE MINUTE stays", x.now(0), many - known);
            d.due("now(6) stays", x.now(6), 0);
        }
    }

    /** Undone and done again, over and over: what is known comes round in the ring. */
    private void ringOfTen() {
        TruePies x = new TruePies();
        int minute = 0;
        for (int turn = 0; turn < 12; turn++) {
            for (int i = 0; i < 7; i++) {
                x.minutes(2);
            }
            minute += 14;
            for (int i = 0; i < 4; i++) {
                minute -= 2;
                x.undo();
                d.due("THE MINUTE in turn " + turn, x.now(0), minute);
            }
            d.due("known in turn " + turn, x.now(6), turn == 0 ? 3 : 6);
        }
    }

    /** "UNDONE: the latest comes(), says(), minutes()": each of them, let BY or ROUND. */
    private void whatIsUndone() {
        TruePies x = Due.told("n2;v a;v b;g a;g b;");
        String[] calls = {"comes", "by", "comes", "round", "minutes", "back at the gate"};
        List<List<String>> before = new ArrayList<>();
        for (int step = 0; step < calls.length; step++) {
            before.add(place(x));
            switch (step) {
                case 0 -> x.comes(0);
                case 1 -> x.says(0, 0);
                case 2 -> x.comes(1);
                case 3 -> x.says(1, 5);
                default -> x.minutes(1);
            }
        }
        for (int step = calls.length - 1; step >= 0; step--) {
            d.due("undo() of " + calls[step], x.undo(), step);
            d.same("undone: " + calls[step], place(x), before.get(step));
        }
        d.due("undo() of none", x.undo(), STATE);
    }

    private static List<String> place(TruePies x) {
        List<String> said = new ArrayList<>();
        for (int what = 0; what <= 6; what++) {
            said.add("now(" + what + ") = " + x.now(what));
        }
        for (int g = 0; g < 2; g++) {
            for (int what = 1; what <= 3; what++) {
                said.add("goer(" + g + ", " + what + ") = " + x.goer(g, what));
            }
        }
        return said;
    }

    /** What is none of the three is not undone, and not known: the text, what is SEEN, THE TRACE, images. */
    private void whatIsNotUndone() {
        TruePies x = Due.told("v a;g a;");
        x.comes(0);
        x.type('v');
        x.sees(0, 0, 1);
        x.sees(0, 0, 1);
        x.rate(5, 0);
        x.keep(1);
        d.due("known", x.now(6), 1);
        d.due("undo()", x.undo(), 0);
        d.due("the text stays", x.count(6), 1);
        d.due("what is SEEN stays", x.count(5), 2);
        d.due("\"THE TRACE goes on, as behind undo()\"", x.trace(), 100001);
        d.due("the image stays", x.back(1), 0);
        d.due("with him at the GATE", x.goer(0, 1), GATE);
        x.minutes(1);
        x.forget();
        x.clear();
        d.due("undo() of minutes()", x.undo(), 0);
        d.due("forgotten is forgotten", x.count(5), 0);
        d.due("cleared is cleared", x.count(6), 0);
        d.due("LANE, leaves, goers stay", x.count(0) + x.count(1) + x.count(4), 5);
    }

    /** ".. that was not refused". */
    private void refusedAreNotKnown() {
        TruePies x = minute990();
        x.minutes(9);
        for (int i = 0; i < 10; i++) {
            x.undo();
        }
        d.due("nothing is known", x.now(6), 0);
        d.due("minute 909", x.now(0), 909);
        x.comes(0);
        x.says(0, 0);
        int[] refused = {
            x.comes(0), x.comes(2), x.comes(-1), x.says(0, 0), x.says(1, 0), x.says(0, 6), x.says(2, 0), x.minutes(0),
            x.minutes(10), x.back(0), x.back(2), x.keep(2), x.fewest(0, 2)
        };
        int[] due = {-2, -1, -1, -2, -2, -1, -1, -1, -1, -2, -1, -1, -1};
        for (int i = 0; i < due.length; i++) {
            d.due("refused call " + i, refused[i], due[i]);
        }
        d.due("known are two", x.now(6), 2);
        d.due("undo() of says()", x.undo(), 1);
        d.due("at the GATE", x.goer(0, 1), GATE);
        d.due("undo() of comes()", x.undo(), 0);
        d.due("AWAY", x.goer(0, 1), AWAY);
        d.due("undo() of none", x.undo(), STATE);
    }

    /** "An object is used for at most 512 calls after it has been made": the last one of them answers, too. */
    private void call512() {
        TruePies x = new TruePies();
        Due.typeAll(x, "n1;v a;g b;");
        x.court();
        x.comes(0);
        // 13 calls were made: 249 times two, and one, come to 512.
        for (int i = 1; i <= 249; i++) {
            d.due("says()", x.says(0, 0), 0);
            d.due("minutes()", x.minutes(1), 1);
        }
        d.due("the 512th call", x.rate(5, 0), 250);
    }
}
