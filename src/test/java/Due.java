import java.util.List;

/** Compares answers with those that are due, and ends a test with exit code 1 if one was wrong. */
final class Due {
    private int asked = 0;
    private int wrong = 0;

    void due(String call, long got, long want) {
        asked++;
        if (got != want) {
            wrong++;
            System.out.println(call + " answered " + got + ", due is " + want);
        }
    }

    /** Two rows of answers, one a line, are the same. */
    void same(String name, List<String> got, List<String> want) {
        asked++;
        if (!got.equals(want)) {
            wrong++;
            System.out.println(name + ": " + firstThatDiffers(got, want));
        }
    }

    private static String firstThatDiffers(List<String> got, List<String> want) {
        int both = Math.min(got.size(), want.size());
        for (int i = 0; i < both; i++) {
            if (!got.get(i).equals(want.get(i))) {
                return got.get(i) + ", due is " + want.get(i);
            }
        }
        return got.size() + " answers, due are " + want.size();
    }

    void end() {
        System.out.println(asked + " answers, " + wrong + " wrong");
        if (wrong != 0) {
            System.exit(1);
        }
    }

    static void typeAll(TruePies pies, String text) {
        for (int i = 0; i < text.length(); i++) {
            pies.type(text.charAt(i));
        }
    }

    /** A new object with the court that the text tells. */
    static TruePies told(String text) {
        TruePies pies = new TruePies();
        typeAll(pies, text);
        if (pies.court() < 0) {
            throw new IllegalStateException("a test's own text has a fault: " + text);
        }
        return pies;
    }
}
