import java.util.List;
import java.util.function.Function;
import java.util.function.Supplier;
import java.util.function.ToLongFunction;

/** An object in the midst of its use, made anew as often as it is wanted, and how many things of each sort its court has. */
record State(String name, int leaves, int goers, int sisters, Supplier<TruePies> made) {
    private static final List<Function<TruePies, List<String>>> PROBES =
        List.of(Asked::questions, Asked::undone, Asked::broughtBack, Asked::read);

    private static final String COURT = "n4;v ab;v c;v def;g bc;g e;g aaf;g d;y bcdefa;y aabbcc;k7 4;k4 1;";
    private static final String LARGEST = "n9;v a;v b;v c;v d;v ef;g a;g b;g c;g d;g e;g f;"
        + "y abcdef;y bcdefa;y fedcba;y aaaaaa;k12 11;k11 10;k10 9;";

    static final State FRESH = new State("new", 0, 0, 0, TruePies::new);
    /** Goer 0 is BY, 1 is ROUND, 2 at the GATE, 3 AWAY; image 1 was never kept; a text waits. */
    static final State BUSY = new State("busy", 3, 4, 2, () -> {
        TruePies x = bustle();
        Due.typeAll(x, "v f;g f;");
        return x;
    });
    /** A text with a fault waits. */
    static final State FAULTY = new State("faulty text", 3, 4, 2, () -> {
        TruePies x = bustle();
        Due.typeAll(x, "n7;v c;g a;y aaaaaa;k5 0;v");
        return x;
    });
    /** Nothing can be UNDONE. */
    static final State BROUGHT_BACK = new State("behind back()", 3, 4, 2, () -> {
        TruePies x = bustle();
        x.back(0);
        return x;
    });
    static final State FULL_TEXT = new State("full text", 3, 4, 2, () -> {
        TruePies x = bustle();
        Due.typeAll(x, "v f;" + " ".repeat(156));
        return x;
    });
    /** As many of everything as there may be: items, what is SEEN, what may be UNDONE, images. */
    static final State BRIM = new State("full", 5, 6, 4, State::brim);
    /** THE MINUTE is 999; goer 1 is ROUND for good, goer 3 at the GATE. */
    static final State LATE = new State("last minute", 3, 4, 2, State::late);
    static final State NO_LEAVES = new State("no leaves", 0, 2, 0, () -> {
        TruePies x = Due.told("g a;g b;");
        x.comes(0);
        return x;
    });
    static final List<State> ALL = List.of(FRESH, BUSY, FAULTY, BROUGHT_BACK, FULL_TEXT, BRIM, LATE, NO_LEAVES);

    private static TruePies bustle() {
        TruePies x = Due.told(COURT);
        x.comes(0);
        x.comes(1);
        x.comes(2);
        x.minutes(2);
        x.says(0, 1);
        x.says(1, 0);
        x.keep(0);
        x.minutes(1);
        x.sees(1, 0, 1);
        x.sees(4, 2, 0);
        x.rate(3, 1);
        return x;
    }

    private static TruePies brim() {
        TruePies x = Due.told(LARGEST);
        for (int g = 0; g < 6; g++) {
            x.comes(g);
            x.minutes(1);
        }
        x.says(0, 0);
        x.says(1, 0);
        x.keep(0);
        x.minutes(1);
        x.keep(1);
        x.minutes(2);
        for (int taste = 0; taste < 6; taste++) {
            x.sees(taste, Math.min(taste, 4), taste % 2);
        }
        Due.typeAll(x, "g ab;");
        return x;
    }

    private static TruePies late() {
        TruePies x = Due.told(COURT);
        x.comes(0);
        x.comes(1);
        x.says(0, 1);
        x.says(1, 0);
        for (int i = 0; i < 111; i++) {
            x.minutes(9);
        }
        x.comes(3);
        x.says(1, 0);
        x.keep(0);
        return x;
    }

    /** A call answers what is due and leaves all as it is. */
    void refuses(Due d, String call, long due, ToLongFunction<TruePies> made) {
        d.due(name + ": " + call, made.applyAsLong(make()), due);
        staysAsIs(d, call, made);
    }

    /** The same is asked of two objects, one of which got the call ahead of that. */
    void staysAsIs(Due d, String call, ToLongFunction<TruePies> made) {
        for (Function<TruePies, List<String>> probe : PROBES) {
            TruePies called = make();
            made.applyAsLong(called);
            List<String> got = probe.apply(called);
            List<String> want = probe.apply(make());
            d.same(name + ", behind " + call, got, want);
        }
    }

    TruePies make() {
        return made.get();
    }
}
