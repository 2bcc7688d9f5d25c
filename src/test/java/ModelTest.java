import java.util.Random;

/** Runs of calls, always the same ones, on the class and on the model: both answer alike. */
public final class ModelTest {
    private static final int RUNS = 4000;
    private static final int CALLS = 512;
    private static final int[] EDGES = {Integer.MIN_VALUE, -1000000, -2, -1, 6, 7, 10, 64, 99, 100, 255, 256, 30000, 30001, Integer.MAX_VALUE};

    private final Random random;
    private final Due due;
    private final TruePies pies = new TruePies();
    private final Model model = new Model();
    private int calls = 0;

    private ModelTest(long seed, Due due) {
        random = new Random(seed);
        this.due = due;
    }

    public static void main(String[] args) {
        Due due = new Due();
        for (int run = 0; run < RUNS; run++) {
            new ModelTest(run, due).run(run);
        }
        due.end();
    }

    private void run(int number) {
        if (number % 2 == 0) {
            tell(court());
        }
        while (calls < CALLS) {
            int dice = random.nextInt(200);
            if (dice == 0) {
                tell(court());
            } else if (dice == 1) {
                tell(spoilt(court()));
            } else {
                oneCall();
            }
        }
    }

    private void tell(String text) {
        if (calls + text.length() + 2 > CALLS) {
            calls = CALLS;
            return;
        }
        calls += text.length() + 2;
        due.due("clear()", pies.clear(), model.clear());
        for (char c : text.toCharArray()) {
            due.due("type(" + (int) c + ")", pies.type(c), model.type(c));
        }
        due.due("court() of '" + text + "'", pies.court(), model.court());
        lookRound();
    }

    /** All that can be asked of the court without arguments of its own; the model's answers are what is due. */
    private void lookRound() {
        for (int i = 0; i < 7; i++) {
            due.due("now(" + i + ")", pies.now(i), model.now(i));
            due.due("count(" + i + ")", pies.count(i), model.count(i));
        }
    }

    private String court() {
        StringBuilder text = new StringBuilder();
        int items = random.nextInt(16);
        for (int i = 0; i < items; i++) {
            blanks(text);
            switch (random.nextInt(12)) {
                case 0, 1, 2 -> text.append("v ").append(row(1 + random.nextInt(3)));
                case 3, 4, 5, 6 -> text.append("g ").append(row(1 + random.nextInt(3)));
                case 7 -> text.append("v ").append(row(1 + random.nextInt(7)));
                case 8, 9 -> text.append("y ").append(row(6));
                case 10 -> {
                    int m = 2 + random.nextInt(11);
                    text.append('k').append(m).append(' ').append(random.nextInt(m));
                }
                default -> text.append('n').append(1 + random.nextInt(9));
            }
            blanks(text);
            text.append(';');
        }
        return text.toString();
    }

    private void blanks(StringBuilder text) {
        while (random.nextInt(6) == 0) {
            text.append(' ');
        }
    }

    private String row(int size) {
        StringBuilder row = new StringBuilder();
        for (int i = 0; i < size; i++) {
            row.append((char) ('a' + random.nextInt(6)));
        }
        return row.toString();
    }

    private String spoilt(String text) {
        String letters = "vgykn abcdefz0123459;;A\t";
        StringBuilder spoilt = new StringBuilder(text);
        for (int times = random.nextInt(3); times >= 0; times--) {
            int place = random.nextInt(spoilt.length() + 1);
            char letter = random.nextInt(8) == 0 ? (char) random.nextInt(256) : letters.charAt(random.nextInt(letters.length()));
            if (random.nextBoolean() || place == spoilt.length()) {
                spoilt.insert(place, letter);
            } else if (random.nextBoolean()) {
                spoilt.setCharAt(place, letter);
            } else {
                spoilt.deleteCharAt(place);
            }
        }
        return spoilt.toString();
    }

    private int number(int below) {
        int dice = random.nextInt(40);
        return dice == 0 ? EDGES[random.nextInt(EDGES.length)] : dice == 1 ? below : random.nextInt(below);
    }

    private void oneCall() {
        calls++;
        switch (random.nextInt(34)) {
            case 0, 1, 2 -> comes(number(6));
            case 3, 4, 5, 6, 7 -> says(number(6), number(6));
            case 8, 9, 10 -> minutes(1 + number(random.nextInt(10) == 0 ? 9 : 3));
            case 11 -> due.due("undo()", pies.undo(), model.undo());
            case 12, 13 -> fewest(number(6), number(2));
            case 14, 15 -> line(number(7) - 1);
            case 16 -> sees(number(6), number(5), number(2));
            case 17 -> {
                if (random.nextInt(4) == 0) {
                    due.due("forget()", pies.forget(), model.forget());
                }
            }
            case 18 -> had(number(3));
            case 19 -> ask(number(5));
            case 20 -> tale(number(6), number(100));
            case 21 -> first(number(6), number(100));
            case 22 -> when(number(30001));
            case 23 -> odds(number(11), number(7), number(7), number(2));
            case 24, 25 -> rate(number(6), number(6));
            case 26 -> keep(number(2));
            case 27 -> {
                if (random.nextInt(3) == 0) {
                    back(number(2));
                }
            }
            case 28 -> count(number(7));
            case 29 -> due.due("trace()", pies.trace(), model.trace());
            case 30 -> leaf(number(5), number(2));
            case 31 -> goer(number(6), number(5));
            case 32 -> sister(number(4), number(6));
            default -> now(number(7));
        }
    }

    private void comes(int g) {
        due.due("comes(" + g + ")", pies.comes(g), model.comes(g));
    }

    private void says(int g, int taste) {
        due.due("says(" + g + ", " + taste + ")", pies.says(g, taste), model.says(g, taste));
    }

    private void minutes(int n) {
        due.due("minutes(" + n + ")", pies.minutes(n), model.minutes(n));
    }

    private void fewest(int g, int what) {
        due.due("fewest(" + g + ", " + what + ")", pies.fewest(g, what), model.fewest(g, what));
    }

    private void line(int k) {
        due.due("line(" + k + ")", pies.line(k), model.line(k));
    }

    private void sees(int taste, int leaf, int by) {
        due.due("sees(" + taste + ", " + leaf + ", " + by + ")", pies.sees(taste, leaf, by), model.sees(taste, leaf, by));
    }

    private void had(int what) {
        due.due("had(" + what + ")", pies.had(what), model.had(what));
    }

    private void ask(int leaf) {
        due.due("ask(" + leaf + ")", pies.ask(leaf), model.ask(leaf));
    }

    private void tale(int taste, int n) {
        due.due("tale(" + taste + ", " + n + ")", pies.tale(taste, n), model.tale(taste, n));
    }

    private void first(int taste, int n) {
        due.due("first(" + taste + ", " + n + ")", pies.first(taste, n), model.first(taste, n));
    }

    private void when(int day) {
        due.due("when(" + day + ")", pies.when(day), model.when(day));
    }

    private void odds(int x, int n, int k, int what) {
        due.due("odds(" + x + ", " + n + ", " + k + ", " + what + ")", pies.odds(x, n, k, what), model.odds(x, n, k, what));
    }

    private void rate(int kind, int g) {
        due.due("rate(" + kind + ", " + g + ")", pies.rate(kind, g), model.rate(kind, g));
    }

    private void keep(int image) {
        due.due("keep(" + image + ")", pies.keep(image), model.keep(image));
    }

    private void back(int image) {
        due.due("back(" + image + ")", pies.back(image), model.back(image));
    }

    private void count(int what) {
        due.due("count(" + what + ")", pies.count(what), model.count(what));
    }

    private void leaf(int l, int what) {
        due.due("leaf(" + l + ", " + what + ")", pies.leaf(l, what), model.leaf(l, what));
    }

    private void goer(int g, int what) {
        due.due("goer(" + g + ", " + what + ")", pies.goer(g, what), model.goer(g, what));
    }

    private void sister(int y, int taste) {
        due.due("sister(" + y + ", " + taste + ")", pies.sister(y, taste), model.sister(y, taste));
    }

    private void now(int what) {
        due.due("now(" + what + ")", pies.now(what), model.now(what));
    }
}
