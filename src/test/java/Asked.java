import java.util.ArrayList;
import java.util.List;

/** All that can be asked of an object, written down: two objects that are alike answer alike. */
final class Asked {
    private Asked() { }

    /** What is asked without changing anything. */
    static List<String> questions(TruePies x) {
        List<String> said = new ArrayList<>();
        for (int what = 0; what <= 6; what++) {
            say(said, "now", x.now(what), what);
            say(said, "count", x.count(what), what);
            say(said, "line", x.line(what - 1), what - 1);
        }
        for (int i = 0; i < 6; i++) {
            for (int what = 0; what <= 4; what++) {
                say(said, "goer", x.goer(i, what), i, what);
            }
            say(said, "leaf", x.leaf(i, 0), i, 0);
            say(said, "leaf", x.leaf(i, 1), i, 1);
            say(said, "ask", x.ask(i), i);
            for (int y = 0; y < 4; y++) {
                say(said, "sister", x.sister(y, i), y, i);
            }
            say(said, "fewest", x.fewest(i, 0), i, 0);
            say(said, "fewest", x.fewest(i, 1), i, 1);
        }
        for (int what = 0; what <= 2; what++) {
            say(said, "had", x.had(what), what);
            say(said, "when", x.when(what), what);
        }
        say(said, "trace", x.trace());
        return said;
    }

    /** What is undone, step by step, till nothing is left; one step more than can be known. */
    static List<String> undone(TruePies x) {
        List<String> said = new ArrayList<>();
        for (int step = 0; step <= 10; step++) {
            say(said, "undo", x.undo());
            place(said, x);
        }
        return said;
    }

    /** What the images hold. */
    static List<String> broughtBack(TruePies x) {
        List<String> said = new ArrayList<>();
        for (int image = 0; image < 2; image++) {
            say(said, "back", x.back(image), image);
            place(said, x);
        }
        return said;
    }

    /** What the text tells, ended first if it ends too early. */
    static List<String> read(TruePies x) {
        List<String> said = new ArrayList<>();
        int answer = x.court();
        say(said, "court", answer);
        if (answer < 0) {
            Due.typeAll(x, " a;");
            say(said, "court", x.court());
        }
        said.addAll(questions(x));
        return said;
    }

    private static void place(List<String> said, TruePies x) {
        for (int what = 0; what <= 4; what++) {
            say(said, "now", x.now(what), what);
        }
        for (int g = 0; g < 6; g++) {
            for (int what = 1; what <= 3; what++) {
                say(said, "goer", x.goer(g, what), g, what);
            }
        }
    }

    private static void say(List<String> said, String call, long answer, int... arguments) {
        StringBuilder line = new StringBuilder(call).append('(');
        for (int i = 0; i < arguments.length; i++) {
            line.append(i == 0 ? "" : ", ").append(arguments[i]);
        }
        said.add(line.append(") = ").append(answer).toString());
    }
}
