import java.util.List;
import java.util.function.Function;
import java.util.function.ToLongFunction;

/**
 * "Refused, and nothing changes, the first of these: BAD (a number is not as told, or there is no such thing), STATE (as
 * told), FULL." Every refusal of every call, in every state in which it may come, with what it answers and that all stays
 * as it is; behind that the questions, which change nothing either.
 */
public final class RefusedTest {
    private static final int LEAST = Integer.MIN_VALUE, GREATEST = Integer.MAX_VALUE;
    private static final int BAD = -1, STATE = -2, FULL = -3, NO = -1000000;

    private final Due d;
    private final State state;

    private RefusedTest(Due d, State state) {
        this.d = d;
        this.state = state;
    }

    public static void main(String[] args) {
        Due d = new Due();
        for (State state : State.ALL) {
            RefusedTest test = new RefusedTest(d, state);
            test.badNumbersOfTheCourt();
            test.badNumbersOfWhatIsDone();
            test.badNumbersOfWhatIsAsked();
            test.badNumbersOfTalesAndFridays();
            test.badNumbersOfKindsAndImages();
            test.questions();
        }
        states(d);
        full(d);
        faults(d);
        badAheadOfState(d);
        badAheadOfFull(d);
        d.end();
    }

    private void bad(String call, ToLongFunction<TruePies> made) {
        state.refuses(d, call, BAD, made);
    }

    /** Promises 2, 5 to 8, 26: BAD. */
    private void badNumbersOfTheCourt() {
        for (int letter : new int[] {LEAST, -1, 256, GREATEST}) {
            bad("type(" + letter + ")", x -> x.type(letter));
        }
        for (int l : outside(state.leaves())) {
            bad("leaf(" + l + ", 0)", x -> x.leaf(l, 0));
            bad("leaf(" + l + ", 1)", x -> x.leaf(l, 1));
        }
        for (int what : outside(2)) {
            bad("leaf(0, " + what + ")", x -> x.leaf(0, what));
        }
        for (int g : outside(state.goers())) {
            for (int what = 0; what < 5; what++) {
                int asked = what;
                bad("goer(" + g + ", " + what + ")", x -> x.goer(g, asked));
            }
        }
        for (int what : outside(5)) {
            bad("goer(0, " + what + ")", x -> x.goer(0, what));
        }
        for (int y : outside(state.sisters())) {
            bad("sister(" + y + ", 0)", x -> x.sister(y, 0));
        }
        for (int taste : outside(6)) {
            bad("sister(0, " + taste + ")", x -> x.sister(0, taste));
        }
        for (int what : outside(7)) {
            bad("now(" + what + ")", x -> x.now(what));
            bad("count(" + what + ")", x -> x.count(what));
        }
    }

    /** Promises 9 to 11: BAD. */
    private void badNumbersOfWhatIsDone() {
        for (int g : outside(state.goers())) {
            bad("comes(" + g + ")", x -> x.comes(g));
            bad("says(" + g + ", 0)", x -> x.says(g, 0));
        }
        for (int taste : outside(6)) {
            for (int g = 0; g < state.goers(); g++) {
                int goer = g;
                bad("says(" + g + ", " + taste + ")", x -> x.says(goer, taste));
            }
        }
        for (int n : new int[] {LEAST, -1, 0, 10, GREATEST}) {
            bad("minutes(" + n + ")", x -> x.minutes(n));
        }
    }

    /** Promises 13 to 15, 17, 18: BAD. */
    private void badNumbersOfWhatIsAsked() {
        for (int g : outside(state.goers())) {
            bad("fewest(" + g + ", 0)", x -> x.fewest(g, 0));
            bad("fewest(" + g + ", 1)", x -> x.fewest(g, 1));
        }
        for (int what : outside(2)) {
            bad("fewest(0, " + what + ")", x -> x.fewest(0, what));
            bad("sees(0, 0, " + what + ")", x -> x.sees(0, 0, what));
        }
        for (int k : new int[] {LEAST, -2, 6, GREATEST}) {
            bad("line(" + k + ")", x -> x.line(k));
        }
        for (int taste : outside(6)) {
            bad("sees(" + taste + ", 0, 0)", x -> x.sees(taste, 0, 0));
        }
        for (int leaf : outside(state.leaves())) {
            bad("sees(0, " + leaf + ", 1)", x -> x.sees(0, leaf, 1));
            bad("ask(" + leaf + ")", x -> x.ask(leaf));
        }
        for (int what : outside(3)) {
            bad("had(" + what + ")", x -> x.had(what));
        }
    }

    /** Promises 19 to 22: BAD. */
    private void badNumbersOfTalesAndFridays() {
        for (int taste : outside(6)) {
            bad("tale(" + taste + ", 0)", x -> x.tale(taste, 0));
            bad("tale(" + taste + ", 99)", x -> x.tale(taste, 99));
            bad("first(" + taste + ", 0)", x -> x.first(taste, 0));
            bad("first(" + taste + ", 99)", x -> x.first(taste, 99));
        }
        for (int n : outside(100)) {
            bad("tale(0, " + n + ")", x -> x.tale(0, n));
            bad("first(5, " + n + ")", x -> x.first(5, n));
        }
        for (int day : outside(30001)) {
            bad("when(" + day + ")", x -> x.when(day));
        }
        for (int out : outside(11)) {
            bad("odds(" + out + ", 1, 1, 0)", x -> x.odds(out, 1, 1, 0));
        }
        for (int out : outside(7)) {
            bad("odds(5, " + out + ", 1, 0)", x -> x.odds(5, out, 1, 0));
            bad("odds(5, 1, " + out + ", 1)", x -> x.odds(5, 1, out, 1));
        }
        for (int what : outside(2)) {
            bad("odds(5, 1, 1, " + what + ")", x -> x.odds(5, 1, 1, what));
        }
    }

    /** Promises 23 to 25: "NO: BAD", BAD. */
    private void badNumbersOfKindsAndImages() {
        for (int kind : outside(6)) {
            state.refuses(d, "rate(" + kind + ", 0)", NO, x -> x.rate(kind, 0));
        }
        for (int g : outside(state.goers())) {
            for (int kind = 0; kind < 6; kind++) {
                int asked = kind;
                state.refuses(d, "rate(" + kind + ", " + g + ")", NO, x -> x.rate(asked, g));
            }
        }
        for (int image : outside(2)) {
            bad("keep(" + image + ")", x -> x.keep(image));
            bad("back(" + image + ")", x -> x.back(image));
        }
    }

    /** What is just below 0, just above the last of so many, and farthest out. */
    private static int[] outside(int many) {
        return new int[] {LEAST, -1, many, GREATEST};
    }

    /** "(As things are NOW; nothing is changed.)": neither by these nor by what looks at the court; once and again. */
    private void questions() {
        asks("all questions", Asked::questions);
        for (int taste = 0; taste < 6; taste++) {
            int asked = taste;
            asks("tale(" + taste + ", 99)", x -> x.tale(asked, 99));
            asks("first(" + taste + ", 99)", x -> x.first(asked, 99));
        }
        asks("when(30000)", x -> x.when(30000));
        asks("odds(3, 6, 2, 0)", x -> x.odds(3, 6, 2, 0));
        asks("trace()", TruePies::trace);
    }

    private void asks(String name, Function<TruePies, Object> question) {
        d.same(state.name() + ": " + name + " twice", answersOfTwo(question, true), answersOfTwo(question, false));
        state.staysAsIs(d, name, x -> {
            question.apply(x);
            return 0;
        });
    }

    private List<String> answersOfTwo(Function<TruePies, Object> question, boolean oneObject) {
        TruePies x = state.make();
        TruePies other = oneObject ? x : state.make();
        return List.of(question.apply(x).toString(), question.apply(other).toString());
    }

    /** Promises 9 to 13, 25: STATE. */
    private static void states(Due d) {
        State.BUSY.refuses(d, "comes(0), who is BY", STATE, x -> x.comes(0));
        State.BUSY.refuses(d, "comes(1), who is ROUND", STATE, x -> x.comes(1));
        State.BUSY.refuses(d, "comes(2), who is at the GATE", STATE, x -> x.comes(2));
        for (int taste = 0; taste < 6; taste++) {
            int said = taste;
            State.BUSY.refuses(d, "says(0, " + taste + "), who is BY", STATE, x -> x.says(0, said));
            State.BUSY.refuses(d, "says(1, " + taste + "), who is ROUND", STATE, x -> x.says(1, said));
            State.BUSY.refuses(d, "says(3, " + taste + "), who is AWAY", STATE, x -> x.says(3, said));
            State.NO_LEAVES.refuses(d, "says(0, " + taste + "), at the GATE", STATE, x -> x.says(0, said));
            State.NO_LEAVES.refuses(d, "says(1, " + taste + "), who is AWAY", STATE, x -> x.says(1, said));
        }
        for (int n = 1; n <= 9; n++) {
            int many = n;
            State.LATE.refuses(d, "minutes(" + n + ")", STATE, x -> x.minutes(many));
        }
        State.FRESH.refuses(d, "undo()", STATE, TruePies::undo);
        State.BROUGHT_BACK.refuses(d, "undo()", STATE, TruePies::undo);
        State.BUSY.refuses(d, "fewest(0, 0), who is BY", STATE, x -> x.fewest(0, 0));
        State.BUSY.refuses(d, "fewest(0, 1), who is BY", STATE, x -> x.fewest(0, 1));
        State.BUSY.refuses(d, "back(1)", STATE, x -> x.back(1));
        State.FRESH.refuses(d, "back(0)", STATE, x -> x.back(0));
        State.FRESH.refuses(d, "back(1)", STATE, x -> x.back(1));
    }

    /** Promises 2, 15: FULL. */
    private static void full(Due d) {
        for (int letter : new int[] {0, 32, 'v', 255}) {
            State.FULL_TEXT.refuses(d, "type(" + letter + ")", FULL, x -> x.type(letter));
        }
        for (int taste = 0; taste < 6; taste++) {
            for (int by = 0; by < 2; by++) {
                int said = taste;
                int let = by;
                State.BRIM.refuses(d, "sees(" + taste + ", 4, " + by + ")", FULL, x -> x.sees(said, 4, let));
            }
        }
    }

    /** Promise 4: "-10 less FAULT: nothing changes (THE TEXT stays, too)." */
    private static void faults(Due d) {
        State.FAULTY.refuses(d, "court()", -10 - 26, TruePies::court);
        State.FAULTY.refuses(d, "court() twice", -10 - 26, x -> {
            x.court();
            return x.court();
        });
    }

    /** BAD is ahead of STATE. */
    private static void badAheadOfState(Due d) {
        for (int taste : outside(6)) {
            for (int g : new int[] {0, 1, 3}) {
                State.BUSY.refuses(d, "says(" + g + ", " + taste + "), not at the GATE", BAD, x -> x.says(g, taste));
            }
            State.NO_LEAVES.refuses(d, "says(0, " + taste + ")", BAD, x -> x.says(0, taste));
            State.NO_LEAVES.refuses(d, "says(1, " + taste + ")", BAD, x -> x.says(1, taste));
        }
        for (int g : outside(2)) {
            State.NO_LEAVES.refuses(d, "says(" + g + ", 0)", BAD, x -> x.says(g, 0));
        }
        for (int n : new int[] {LEAST, -1, 0, 10, GREATEST}) {
            State.LATE.refuses(d, "minutes(" + n + ") at 999", BAD, x -> x.minutes(n));
        }
        for (int what : outside(2)) {
            State.BUSY.refuses(d, "fewest(0, " + what + "), who is BY", BAD, x -> x.fewest(0, what));
            State.FRESH.refuses(d, "back(" + what + "), none was kept", BAD, x -> x.back(what));
        }
    }

    /** BAD is ahead of FULL. */
    private static void badAheadOfFull(Due d) {
        for (int letter : new int[] {LEAST, -1, 256, GREATEST}) {
            State.FULL_TEXT.refuses(d, "type(" + letter + "), full", BAD, x -> x.type(letter));
        }
        for (int out : outside(6)) {
            State.BRIM.refuses(d, "sees(" + out + ", 0, 0), full", BAD, x -> x.sees(out, 0, 0));
        }
        for (int out : outside(5)) {
            State.BRIM.refuses(d, "sees(0, " + out + ", 0), full", BAD, x -> x.sees(0, out, 0));
        }
        for (int out : outside(2)) {
            State.BRIM.refuses(d, "sees(0, 0, " + out + "), full", BAD, x -> x.sees(0, 0, out));
        }
    }
}
