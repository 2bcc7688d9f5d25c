/** Part 1 of the document, sentence by sentence: what a text may hold, how much of it, and where its FAULT is. */
public final class TextEdgesTest {
    private static final String HEADS = "vgykn";

    private final Due d = new Due();

    public static void main(String[] args) {
        TextEdgesTest test = new TextEdgesTest();
        test.tastesAreAToF();
        test.rowsOfOneToSix();
        test.rowsOfSisters();
        test.oneMayBeToldTwice();
        test.soManyAtMost();
        test.allAtMost();
        test.divisors();
        test.rests();
        test.lanes();
        test.zeroesAhead();
        test.numbersAbove99();
        test.noItems();
        test.letters160();
        test.typingOn();
        test.blanksAnyNumber();
        test.blanksNeeded();
        test.everyLetterAhead();
        test.everyLetterBetween();
        test.everyLetterBehindARow();
        test.everyLetterBehindAnItem();
        test.everyLetterAtANumber();
        test.headsAlone();
        test.endedBySemicolon();
        test.whatCantStand();
        test.firstOfTwoFaults();
        test.endsTooEarly();
        test.oldLettersAreGone();
        test.d.end();
    }

    private void answer(String text, int want) {
        TruePies x = new TruePies();
        Due.typeAll(x, text);
        d.due("court() of '" + text + "'", x.court(), want);
        d.due("letters behind '" + text + "'", x.count(6), want < 0 ? text.length() : 0);
        d.due("clear() behind '" + text + "'", x.clear(), want < 0 ? text.length() : 0);
    }

    private void fault(String text, int place) {
        answer(text, -10 - place);
    }

    /** "TASTES are a to f (0 .. 5)": the letters just outside, and all others, are none. */
    private void tastesAreAToF() {
        for (char c = 'a' - 1; c <= 'z' + 1; c++) {
            String letter = String.valueOf(c);
            if (c >= 'a' && c <= 'f') {
                TruePies x = Due.told("v " + c + ";g " + c + ";y " + letter.repeat(6) + ";");
                d.due("v " + c, x.leaf(0, 0), 1 << c - 'a');
                d.due("g " + c, x.goer(0, 0), 1 << c - 'a');
                d.due("y " + c, x.sister(0, 0), c - 'a');
                d.due("y " + c, x.sister(0, 5), c - 'a');
            } else {
                fault("v " + c + ";", 2);
                fault("g " + c + ";", 2);
                fault("y " + letter.repeat(6) + ";", 2);
            }
        }
        for (int place = 0; place < 6; place++) {
            String row = "abcdef".substring(0, place) + "g" + "abcdef".substring(place + 1);
            fault("v " + row + ";", 2);
            fault("g " + row + ";", 2);
            fault("y " + row + ";", 2);
        }
    }

    /** "v and a row of 1 to 6 TASTES", "g and a row of 1 to 6 TASTES"; "a row that is too short, too long". */
    private void rowsOfOneToSix() {
        fault("v ;", 2);
        fault("g ;", 2);
        fault("v;", 1);
        fault("g;", 1);
        for (int size = 1; size <= 6; size++) {
            TruePies x = Due.told("v " + "abcdef".substring(0, size) + ";g " + "fedcba".substring(0, size) + ";");
            d.due("v of " + size, x.leaf(0, 0), (1 << size) - 1);
            d.due("g of " + size, x.goer(0, 0), 63 & 63 << 6 - size);
        }
        for (int size : new int[] {7, 8, 12, 13, 100, 150}) {
            fault("v " + "a".repeat(size) + ";", 2);
            fault("g " + "f".repeat(size) + ";", 2);
        }
    }

    /** "y and a row of 6 TASTES". */
    private void rowsOfSisters() {
        fault("y;", 1);
        fault("y ;", 2);
        for (int size = 1; size <= 14; size++) {
            answer("y " + "a".repeat(size) + ";", size == 6 ? 1 : -12);
        }
        TruePies x = Due.told("y fedcba;y abcdef;");
        for (int taste = 0; taste < 6; taste++) {
            d.due("the first sister", x.sister(0, taste), 5 - taste);
            d.due("the next sister", x.sister(1, taste), taste);
        }
    }

    /** "one may be told twice: as it is". */
    private void oneMayBeToldTwice() {
        TruePies x = Due.told("v aa;v ffffff;v abcabc;g bb;g eeeeee;g fafafa;");
        int[] leaves = {1, 32, 7};
        int[] goers = {2, 16, 33};
        for (int i = 0; i < 3; i++) {
            d.due("leaf " + i + ", told twice", x.leaf(i, 0), leaves[i]);
            d.due("goer " + i + ", told twice", x.goer(i, 0), goers[i]);
        }
        d.due("he has so many", x.rate(0, 2), 2);
    }

    /** "a sixth v, a seventh g, a fifth y, a fourth k, n again". */
    private void soManyAtMost() {
        soMany("v abc;", 5, 0);
        soMany("g abc;", 6, 1);
        soMany("y abcdef;", 4, 2);
        soMany("k 5 3;", 3, 3);
        for (int n = 1; n <= 9; n++) {
            fault("n " + n + ";n " + n + ";", 4);
            fault("n " + n + ";v a;  n", 10);
            fault("n " + n + ";n;", 4);
            fault("n " + n + ";n 0;", 4);
        }
    }

    private void soMany(String item, int most, int what) {
        String head = item.substring(0, 1);
        for (int many = 0; many <= most; many++) {
            d.due(many + " times " + item, Due.told(item.repeat(many)).count(what), many);
        }
        String all = item.repeat(most);
        int place = all.length();
        fault(all + item, place);
        fault(all + item + item, place);
        fault(all + "   " + item, place + 3);
        fault(all + head, place);
        fault(all + head + ";", place);
        fault(all + head + " !", place);
        // Other items between and behind them are not of that sort.
        String other = head.equals("v") ? "g a;" : "v a;";
        answer(other + all + other, most + 2);
        fault(other + all + other + item, place + 8);
    }

    /** As many of each as there may be, at once; then one more of each. */
    private void allAtMost() {
        String all = "v a;v b;v c;v d;v e;g a;g b;g c;g d;g e;g f;y aaaaaa;y bbbbbb;y cccccc;y dddddd;k2 0;k3 0;k4 0;n9;";
        TruePies x = new TruePies();
        Due.typeAll(x, all);
        d.due("all at most", x.court(), 19);
        int[] counts = {5, 6, 4, 3, 9};
        for (int what = 0; what < counts.length; what++) {
            d.due("all at most: count(" + what + ")", x.count(what), counts[what]);
        }
        for (int i = 0; i < 6; i++) {
            d.due("leaf(" + i + ", 0)", x.leaf(i, 0), i < 5 ? 1 << i : -1);
            d.due("goer(" + i + ", 0)", x.goer(i, 0), 1 << i);
            d.due("sister(" + i + ", 0)", x.sister(i, 0), i < 4 ? i : -1);
        }
        d.due("when(1)", x.when(1), 12);
        for (char head : HEADS.toCharArray()) {
            fault(all + head, all.length());
        }
    }

    /** "M (2 .. 12)". */
    private void divisors() {
        for (int m = 0; m <= 99; m++) {
            String text = "k " + m + " 0;";
            answer(text, m >= 2 && m <= 12 ? 1 : -12);
            if (m >= 2 && m <= 12) {
                d.due("when(1) by " + m, Due.told(text).when(1), m);
            }
        }
    }

    /** "R (less than M)". */
    private void rests() {
        for (int m = 2; m <= 12; m++) {
            String k = "k " + m + " ";
            for (int r = 0; r <= 99; r++) {
                answer(k + r + ";", r < m ? 1 : -10 - k.length());
                if (r < m) {
                    TruePies x = Due.told(k + r + ";");
                    d.due("when(0), " + r + " by " + m, x.when(0), r);
                    d.due("when(" + (r + 1) + "), " + r + " by " + m, x.when(r + 1), r + m);
                }
            }
        }
    }

    /** "LANE (1 .. 9 minutes; 3 at first)". */
    private void lanes() {
        d.due("LANE of a new object", new TruePies().count(4), 3);
        d.due("LANE that is not told", Due.told("v a;").count(4), 3);
        for (int n = 0; n <= 99; n++) {
            answer("n " + n + ";", n >= 1 && n <= 9 ? 1 : -12);
            if (n >= 1 && n <= 9) {
                TruePies x = Due.told("n " + n + ";");
                d.due("LANE " + n, x.count(4), n);
                x.court();
                d.due("LANE that is not told anew", x.count(4), 3);
            }
        }
    }

    /** "a NUMBER .. with a 0 ahead of others": a lone 0 has none behind it. */
    private void zeroesAhead() {
        answer("k 2 0;", 1);
        for (int digit = 0; digit <= 9; digit++) {
            fault("n 0" + digit + ";", 2);
            fault("k 0" + digit + " 0;", 2);
            fault("k 10 0" + digit + ";", 5);
        }
        fault("k 010 0;", 2);
        fault("k 012 0;", 2);
        fault("k 12 011;", 5);
        fault("k 12 000;", 5);
        fault("n 0000000005;", 2);
        answer("k 10 0;k 12 10;", 2);
    }

    /** "a NUMBER above 99": also one so large that a shorter number would come round to one that may be. */
    private void numbersAbove99() {
        String[] large = {
            "100", "101", "102", "255", "256", "258", "259", "999", "1000", "32768", "65536", "65538", "65539",
            "2147483647", "2147483648", "4294967296", "4294967298", "4294967299", "18446744073709551616",
            "18446744073709551618", "18446744073709551619", "340282366920938463463374607431768211459",
            "9".repeat(140)
        };
        for (String number : large) {
            fault("n" + number + ";", 1);
            fault("n " + number, 2);
            fault("k" + number + " 0;", 1);
            fault("k 12 " + number + ";", 5);
            fault("v " + number + ";", 2);
            fault(number + ";", 0);
            fault("v a" + number + ";", 3);
        }
    }

    /** "ITEMS (none, too)". */
    private void noItems() {
        for (int blanks = 0; blanks <= 160; blanks++) {
            answer(" ".repeat(blanks), 0);
        }
        TruePies x = Due.told("n7;v a;g b;y abcdef;k7 3;");
        d.due("court() of no text", x.court(), 0);
        int[] counts = {0, 0, 0, 0, 3, 0, 0};
        for (int what = 0; what < counts.length; what++) {
            d.due("no items: count(" + what + ")", x.count(what), counts[what]);
        }
        d.due("no items: when(1)", x.when(1), 1);
        d.due("no items: tale(0, 1)", x.tale(0, 1), -9);
    }

    /** "They are a text (160 letters at most)"; promise 2: "how many it has"; "FULL". */
    private void letters160() {
        TruePies x = new TruePies();
        for (int many = 1; many <= 160; many++) {
            d.due("letter " + many, x.type(many + 95), many);
            d.due("so many", x.count(6), many);
        }
        for (int letter : new int[] {0, 32, 59, 255}) {
            d.due("the 161st letter", x.type(letter), -3);
        }
        d.due("full: BAD comes first", x.type(256), -1);
        d.due("full: BAD comes first", x.type(-1), -1);
        d.due("full: count(6)", x.count(6), 160);
        d.due("full: clear()", x.clear(), 160);
        d.due("empty: clear()", x.clear(), 0);
        d.due("type(0) then", x.type(0), 1);
        // A text of 160 letters whose last one counts, and one that ends a letter too early.
        String items = "v a;v b;v c;v d;v e;g a;g b;g c;g d;g e;g f;y aaaaaa;y bbbbbb;y cccccc;y dddddd;k12 11;k12 11;k12 11;";
        String blanks = " ".repeat(160 - items.length() - 3);
        answer(items + blanks + "n9;", 19);
        fault(items + blanks + " n9", 160);
        fault(items + blanks + "  n", 160);
        fault(items + blanks + "n99", 158);
        fault(items + blanks + "n9!", 159);
        TruePies tooMuch = new TruePies();
        Due.typeAll(tooMuch, items + blanks + "n9;!");
        d.due("court() without the 161st letter", tooMuch.court(), 19);
    }

    /** THE TEXT is empty behind clear() and behind court(), and takes 160 letters again. */
    private void typingOn() {
        TruePies x = new TruePies();
        Due.typeAll(x, " ".repeat(160));
        d.due("court() of 160 blanks", x.court(), 0);
        for (int many = 1; many <= 160; many++) {
            d.due("letter " + many + " behind court()", x.type(' '), many);
        }
        d.due("full again", x.type(' '), -3);
        x.clear();
        Due.typeAll(x, "v f;");
        d.due("court() behind clear()", x.court(), 1);
        d.due("and its leaf", x.leaf(0, 0), 32);
    }

    /** "blanks (32), any number, ahead of, between, behind TOKENS". */
    private void blanksAnyNumber() {
        String[] tokens = {"v", "ab", ";", "k", "12", "11", ";", "n", "9", ";", "y", "fedcba", ";", "g", "c", ";"};
        for (int many = 1; many <= 6; many++) {
            String blanks = " ".repeat(many);
            answer(blanks + String.join(blanks, tokens) + blanks, 5);
        }
        answer(" ".repeat(156) + "v a;", 1);
        answer("v a;" + " ".repeat(156), 1);
        answer("v" + " ".repeat(157) + "a;", 1);
        answer("v a" + " ".repeat(156) + ";", 1);
    }

    /** "(needed only between two rows of letters, two NUMBERS)". */
    private void blanksNeeded() {
        answer("k12 11;n9;v ab;y fedcba;g c;", 5);
        fault("vab;", 0);
        fault("gc;", 0);
        fault("yfedcba;", 0);
        fault("k1211;", 1);
        fault("k21;", 1);
        fault("k20;", 1);
        // A blank parts what would be one token without it.
        fault("v a b;", 4);
        fault("y abc def;", 2);
        fault("n 1 0;", 4);
        fault("k 1 2 0;", 2);
        fault("k 2 1 0;", 6);
        // A number and a row need none, but can't stand there.
        fault("v a1;", 3);
        fault("k2a;", 2);
        fault("n3n3;", 2);
    }

    /** "of any other letter .. that TOKEN's": only 32 is a blank. */
    private void everyLetterAhead() {
        for (int c = 0; c <= 255; c++) {
            answer((char) c + "v a;", c == ' ' ? 1 : -10);
        }
    }

    private void everyLetterBetween() {
        for (int c = 0; c <= 255; c++) {
            boolean letter = c >= 'a' && c <= 'z';
            answer("v" + (char) c + "a;", c == ' ' ? 1 : letter ? -10 : -11);
        }
    }

    private void everyLetterBehindARow() {
        for (int c = 0; c <= 255; c++) {
            int want = -13;
            if (c == ' ' || c >= 'a' && c <= 'f') {
                want = 1;
            } else if (c >= 'g' && c <= 'z') {
                want = -12;
            } else if (c == ';') {
                want = -14;
            }
            answer("v a" + (char) c + ";", want);
        }
    }

    private void everyLetterBehindAnItem() {
        for (int c = 0; c <= 255; c++) {
            int want = c == ' ' ? 1 : HEADS.indexOf(c) >= 0 ? -15 : -14;
            answer("v a;" + (char) c, want);
        }
    }

    private void everyLetterAtANumber() {
        for (int c = 0; c <= 255; c++) {
            boolean digit = c >= '0' && c <= '9';
            answer("n3" + (char) c + ";", c == ' ' ? 1 : digit ? -11 : c == ';' ? -13 : -12);
            boolean letter = c >= 'a' && c <= 'z';
            answer("n" + (char) c + "3;", c == ' ' ? 1 : letter ? -10 : -11);
            // 10, 11, 12 are all that M can be by two digits.
            answer("k1" + (char) c + " 0;", c >= '0' && c <= '2' ? 1 : -11);
            answer("k5" + (char) c + " 0;", c == ' ' ? 1 : digit ? -11 : -12);
        }
    }

    /** "(v, g, y, k, n alone begin ITEMS.)" */
    private void headsAlone() {
        String[] behind = {" abcdef;", " 3 0;", " 3;"};
        String[] takes = {"vgy", "k", "n"};
        for (int form = 0; form < 3; form++) {
            for (char c = 'a'; c <= 'z'; c++) {
                int where = takes[form].indexOf(c);
                if (where >= 0) {
                    answer(c + behind[form], 1);
                } else if (HEADS.indexOf(c) < 0) {
                    fault(c + behind[form], 0);
                }
                fault("v" + c + behind[form], 0);
                fault(c + "n" + behind[form], 0);
            }
        }
        fault("V a;", 0);
        fault("N 3;", 0);
        fault(";", 0);
        fault("3;", 0);
        fault("0", 0);
    }

    /** "each ended by ;". */
    private void endedBySemicolon() {
        String[] items = {"v a", "g a", "y abcdef", "k 2 1", "n 3"};
        for (String item : items) {
            answer(item + ";", 1);
            answer(item + " ;", 1);
            fault(item, item.length());
            fault(item + " ", item.length() + 1);
            fault(item + " v a;", item.length() + 1);
            fault(item + " 1;", item.length() + 1);
            fault(item + ":", item.length());
            fault(item + ";;", item.length() + 1);
            fault(item + "; ;", item.length() + 2);
        }
    }

    /** "the place of the first letter of the first TOKEN that can't stand there", for each place in each ITEM. */
    private void whatCantStand() {
        for (char head : HEADS.toCharArray()) {
            boolean row = "vgy".indexOf(head) >= 0;
            fault("  " + head + "  ;", 5);
            fault("  " + head + "  " + (row ? "5" : "abcdef") + " ;", 5);
            fault("  " + head + "  " + (row ? "vvvvvv" : "v") + " ;", 5);
        }
        fault("k 5 a;", 4);
        fault("k 5 ;", 4);
        fault("k;", 1);
        fault("k 5 4 3;", 6);
        fault("k 5 4 a;", 6);
        fault("n 5 5;", 4);
        fault("n 5 a;", 4);
        fault("v a 5;", 4);
        fault("y abcdef abcdef;", 9);
    }

    /** The first one counts, whatever sort the others are of. */
    private void firstOfTwoFaults() {
        String[] bad = {"v x;", "n 0;", "k 2 2;", "v 007;", "n 100;", "v !;", "y abcde;", "q;"};
        int[] places = {2, 2, 4, 2, 2, 2, 2, 0};
        for (int i = 0; i < bad.length; i++) {
            for (int j = 0; j < bad.length; j++) {
                fault(bad[i] + bad[j], places[i]);
                fault("v a;" + bad[i] + bad[j], places[i] + 4);
            }
            fault(bad[i] + "v", places[i]);
        }
    }

    /** "the text's length, if it ends too early": a text, letter by letter more of it. */
    private void endsTooEarly() {
        String text = " v ab ;g c;y fedcba; k 12 11 ;n 9 ; ";
        int[] want = {
            0, 0, -12, -13, -14, -15, -16, 1, -18, -19, -20, 2, -22, -23,
            // The row of six is too short as yet: that token can't stand there.
            -23, -23, -23, -23, -23, -29, 3, 3, -32, -33,
            // 1 is too small for M; 12 isn't, and 1, 11 are less than that.
            -33, -35, -36, -37, -38, -39, 4, -41, -42, -43, -44, 5, 5
        };
        d.due("one answer for each length", want.length, text.length() + 1);
        for (int length = 0; length <= text.length() && length < want.length; length++) {
            answer(text.substring(0, length), want[length]);
        }
    }

    /** Letters of an older, longer text are no part of a new one. */
    private void oldLettersAreGone() {
        TruePies x = new TruePies();
        Due.typeAll(x, "v abcdef;");
        x.clear();
        Due.typeAll(x, "v a");
        d.due("behind clear(): a row", x.court(), -13);
        x.clear();
        Due.typeAll(x, "k 12 11;");
        x.court();
        Due.typeAll(x, "k 12 1");
        d.due("behind court(): a number", x.court(), -16);
        x.type(';');
        d.due("ended then", x.court(), 1);
        d.due("and read: 1 by 12", x.when(0), 1);
    }
}
