import java.math.BigInteger;
import java.util.ArrayDeque;
import java.util.ArrayList;
import java.util.Deque;
import java.util.List;
import java.util.regex.Matcher;
import java.util.regex.Pattern;

/** The document once more, by other means (regular expressions, all orders, all days): what the class is compared with. */
final class Model {
    private static final Pattern TOKEN = Pattern.compile("[a-z]+|[0-9]+|;|[^ ]", Pattern.DOTALL);

    /** What an image keeps; never changed once it is made. */
    private record Now(int minute, int leaf, int pies, List<Spot> goers) { }

    private record Spot(int where, int until, int rounds) { }

    private record Sight(int taste, int leaf, int by) { }

    private String text = "";
    private List<String> leaves = new ArrayList<>();
    private List<String> goers = new ArrayList<>();
    private List<String> sisters = new ArrayList<>();
    private List<int[]> fridays = new ArrayList<>();
    private int lane = 3;
    private Now now = new Now(0, 0, 0, List.of());
    private final Deque<Now> undone = new ArrayDeque<>();
    private final Now[] images = new Now[2];
    private final List<Sight> seen = new ArrayList<>();
    private long trace = 0;

    int type(int letter) {
        if (letter < 0 || letter > 255) {
            return -1;
        }
        if (text.length() == 160) {
            return -3;
        }
        text += (char) letter;
        return text.length();
    }

    int clear() {
        int had = text.length();
        text = "";
        return had;
    }

    int court() {
        List<String> tokens = new ArrayList<>();
        List<Integer> places = new ArrayList<>();
        Matcher m = TOKEN.matcher(text);
        while (m.find()) {
            tokens.add(m.group());
            places.add(m.start());
        }
        tokens.add("");
        places.add(text.length());
        List<String> v = new ArrayList<>(), g = new ArrayList<>(), y = new ArrayList<>();
        List<int[]> k = new ArrayList<>();
        int n = 0;
        int items = 0;
        int at = 0;
        while (at < tokens.size() - 1) {
            String head = tokens.get(at);
            boolean room = head.equals("v") && v.size() < 5 || head.equals("g") && g.size() < 6
                || head.equals("y") && y.size() < 4 || head.equals("k") && k.size() < 3 || head.equals("n") && n == 0;
            if (!room) {
                return -10 - places.get(at);
            }
            String form = head.equals("y") ? "[a-f]{6}" : head.equals("n") ? "[1-9]"
                : head.equals("k") ? "[2-9]|1[0-2]" : "[a-f]{1,6}";
            String row = tokens.get(++at);
            if (!row.matches(form)) {
                return -10 - places.get(at);
            }
            switch (head) {
                case "v" -> v.add(row);
                case "g" -> g.add(row);
                case "y" -> y.add(row);
                case "n" -> n = Integer.parseInt(row);
                default -> {
                    String rest = tokens.get(++at);
                    if (!rest.matches("[0-9]|1[01]") || Integer.parseInt(rest) >= Integer.parseInt(row)) {
                        return -10 - places.get(at);
                    }
                    k.add(new int[] {Integer.parseInt(row), Integer.parseInt(rest)});
                }
            }
            if (!tokens.get(++at).equals(";")) {
                return -10 - places.get(at);
            }
            at++;
            items++;
        }
        leaves = v;
        goers = g;
        sisters = y;
        fridays = k;
        lane = n == 0 ? 3 : n;
        List<Spot> spots = new ArrayList<>();
        for (int i = 0; i < g.size(); i++) {
            spots.add(new Spot(0, 0, 0));
        }
        now = new Now(0, 0, 0, List.copyOf(spots));
        undone.clear();
        images[0] = null;
        images[1] = null;
        seen.clear();
        text = "";
        return items;
    }

    private static boolean in(int i, List<?> list) {
        return i >= 0 && i < list.size();
    }

    private static boolean in(int i, int least, int most) {
        return i >= least && i <= most;
    }

    private static int bits(String row) {
        int bits = 0;
        for (char c : row.toCharArray()) {
            bits |= 1 << c - 'a';
        }
        return bits;
    }

    private int lets(int l, int g) {
        return bits(leaves.get(l)) & bits(goers.get(g));
    }

    private int leavesThatLet(int g) {
        int bits = 0;
        for (int l = 0; l < leaves.size(); l++) {
            bits |= lets(l, g) != 0 ? 1 << l : 0;
        }
        return bits;
    }

    int leaf(int l, int what) {
        if (!in(l, leaves) || !in(what, 0, 1)) {
            return -1;
        }
        if (what == 0) {
            return bits(leaves.get(l));
        }
        int bits = 0;
        for (int g = 0; g < goers.size(); g++) {
            bits += lets(l, g) != 0 ? 1 << g : 0;
        }
        return bits;
    }

    int goer(int g, int what) {
        if (!in(g, goers) || !in(what, 0, 4)) {
            return -1;
        }
        Spot s = now.goers.get(g);
        int[] answers = {bits(goers.get(g)), s.where, s.where == 2 ? s.until - now.minute : 0, s.rounds, leavesThatLet(g)};
        return answers[what];
    }

    int sister(int y, int taste) {
        return in(y, sisters) && in(taste, 0, 5) ? sisters.get(y).charAt(taste) - 'a' : -1;
    }

    private int who(int where) {
        int bits = 0;
        for (int g = 0; g < now.goers.size(); g++) {
            bits += now.goers.get(g).where == where ? 1 << g : 0;
        }
        return bits;
    }

    private int cover() {
        for (int size = 0; size <= leaves.size(); size++) {
            for (int set = 0; set < 32; set++) {
                boolean all = Integer.bitCount(set) == size;
                for (int g = 0; g < goers.size(); g++) {
                    all &= (leavesThatLet(g) & set) != 0;
                }
                if (all) {
                    return set;
                }
            }
        }
        return -9;
    }

    int now(int what) {
        if (!in(what, 0, 6)) {
            return -1;
        }
        int[] answers = {now.minute, now.leaf, now.pies, who(1), who(3), cover(), undone.size()};
        return answers[what];
    }

    private void become(int minute, int leaf, int pies, List<Spot> spots) {
        undone.addLast(now);
        if (undone.size() > 10) {
            undone.removeFirst();
        }
        now = new Now(minute, leaf, pies, List.copyOf(spots));
    }

    int comes(int g) {
        if (!in(g, goers)) {
            return -1;
        }
        if (now.goers.get(g).where != 0) {
            return -2;
        }
        List<Spot> spots = new ArrayList<>(now.goers);
        spots.set(g, new Spot(1, 0, 0));
        become(now.minute, now.leaf, now.pies, spots);
        return Integer.bitCount(who(1));
    }

    int says(int g, int taste) {
        if (!in(g, goers) || !in(taste, 0, 5)) {
            return -1;
        }
        Spot old = now.goers.get(g);
        if (old.where != 1 || leaves.isEmpty()) {
            return -2;
        }
        String letter = String.valueOf((char) ('a' + taste));
        boolean by = goers.get(g).contains(letter) && leaves.get(now.leaf).contains(letter);
        List<Spot> spots = new ArrayList<>(now.goers);
        spots.set(g, by ? new Spot(3, 0, old.rounds) : new Spot(2, now.minute + lane, old.rounds + 1));
        become(now.minute, (now.leaf + 1) % leaves.size(), now.pies + 1, spots);
        return by ? 1 : 0;
    }

    int minutes(int n) {
        if (!in(n, 1, 9)) {
            return -1;
        }
        if (now.minute + n > 999) {
            return -2;
        }
        List<Spot> spots = new ArrayList<>();
        for (Spot s : now.goers) {
            spots.add(s.where == 2 && s.until <= now.minute + n ? new Spot(1, 0, s.rounds) : s);
        }
        become(now.minute + n, now.leaf, now.pies, spots);
        return Integer.bitCount(who(1));
    }

    int undo() {
        if (undone.isEmpty()) {
            return -2;
        }
        now = undone.removeLast();
        return undone.size();
    }

    int fewest(int g, int what) {
        if (!in(g, goers) || !in(what, 0, 1)) {
            return -1;
        }
        if (now.goers.get(g).where == 3) {
            return -2;
        }
        int l = now.leaf;
        for (int said = 1; said <= leaves.size(); said++) {
            if (lets(l, g) != 0) {
                return what == 0 ? said : Integer.numberOfTrailingZeros(lets(l, g));
            }
            l = l + 1 == leaves.size() ? 0 : l + 1;
        }
        return -9;
    }

    int line(int k) {
        if (!in(k, -1, 5)) {
            return -1;
        }
        List<Integer> best = new ArrayList<>();
        int most = allOrders(new ArrayList<>(), who(1), best, -1);
        return k == -1 ? most : in(k, best) ? best.get(k) : -9;
    }

    /** Tries all orders in turn, the lowest first, and keeps the first of the best. */
    private int allOrders(List<Integer> order, int left, List<Integer> best, int most) {
        if (left == 0) {
            int by = 0;
            for (int i = 0; i < order.size() && !leaves.isEmpty(); i++) {
                by += lets((now.leaf + i) % leaves.size(), order.get(i)) != 0 ? 1 : 0;
            }
            if (by > most) {
                best.clear();
                best.addAll(order);
            }
            return Math.max(by, most);
        }
        int found = most;
        for (int g = 0; g < 6; g++) {
            if ((left >> g & 1) == 1) {
                order.add(g);
                found = allOrders(order, left - (1 << g), best, found);
                order.remove(order.size() - 1);
            }
        }
        return found;
    }

    int sees(int taste, int leaf, int by) {
        if (!in(taste, 0, 5) || !in(leaf, leaves) || !in(by, 0, 1)) {
            return -1;
        }
        if (seen.size() == 6) {
            return -3;
        }
        seen.add(new Sight(taste, leaf, by));
        return seen.size();
    }

    int forget() {
        int had = seen.size();
        seen.clear();
        return had;
    }

    private List<Integer> sets(List<Sight> sights) {
        List<Integer> sets = new ArrayList<>();
        for (int set = 0; set < 64; set++) {
            boolean fits = true;
            for (Sight s : sights) {
                int by = set & bits(leaves.get(s.leaf)) & 1 << s.taste;
                fits &= (by != 0) == (s.by == 1);
            }
            if (fits) {
                sets.add(set);
            }
        }
        return sets;
    }

    int had(int what) {
        if (!in(what, 0, 2)) {
            return -1;
        }
        List<Integer> sets = sets(seen);
        if (what == 0) {
            return sets.size();
        }
        if (what == 1 && sets.isEmpty()) {
            return -9;
        }
        int bits = 0;
        for (int taste = 0; taste < 6; taste++) {
            int with = 0;
            for (int set : sets) {
                with += set >> taste & 1;
            }
            bits += (what == 1 ? with == sets.size() : with > 0) ? 1 << taste : 0;
        }
        return bits;
    }

    int ask(int leaf) {
        if (!in(leaf, leaves)) {
            return -1;
        }
        if (sets(seen).size() <= 1) {
            return -9;
        }
        int best = -9;
        int least = 65;
        for (int taste = 0; taste < 6; taste++) {
            int greater = 0;
            for (int by = 0; by <= 1; by++) {
                List<Sight> more = new ArrayList<>(seen);
                more.add(new Sight(taste, leaf, by));
                greater = Math.max(greater, sets(more).size());
            }
            if (greater < least) {
                least = greater;
                best = taste;
            }
        }
        return best;
    }

    int tale(int taste, int n) {
        if (!in(taste, 0, 5) || !in(n, 0, 99)) {
            return -1;
        }
        if (n == 0) {
            return taste;
        }
        if (sisters.isEmpty()) {
            return -9;
        }
        return sisters.get((n - 1) % sisters.size()).charAt(tale(taste, n - 1)) - 'a';
    }

    int first(int taste, int n) {
        if (!in(taste, 0, 5) || !in(n, 0, 99)) {
            return -1;
        }
        int bits = 0;
        for (int t = 5; t >= 0; t--) {
            bits = 2 * bits + (tale(t, n) == taste ? 1 : 0);
        }
        return bits;
    }

    int when(int day) {
        if (!in(day, 0, 30000)) {
            return -1;
        }
        for (int d = day; d < day + 12 * 12 * 12; d++) {
            boolean all = true;
            for (int[] f : fridays) {
                all &= d % f[0] == f[1];
            }
            if (all) {
                return d;
            }
        }
        return -9;
    }

    int odds(int x, int n, int k, int what) {
        if (!in(x, 0, 10) || !in(n, 0, 6) || !in(k, 0, 6) || !in(what, 0, 1)) {
            return -1;
        }
        BigInteger upper = BigInteger.ZERO;
        for (int days = 0; days < 1 << n; days++) {
            int comes = Integer.bitCount(days);
            if (comes >= k) {
                upper = upper.add(BigInteger.valueOf(x).pow(comes).multiply(BigInteger.valueOf(10 - x).pow(n - comes)));
            }
        }
        BigInteger lower = BigInteger.TEN.pow(n);
        return (what == 0 ? upper : lower).divide(upper.gcd(lower)).intValueExact();
    }

    int rate(int kind, int g) {
        if (!in(kind, 0, 5) || !in(g, goers)) {
            return -1000000;
        }
        int has = Integer.bitCount(bits(goers.get(g)));
        int rounds = now.goers.get(g).rounds;
        int less = has - Integer.bitCount(leavesThatLet(g));
        int[] rates = {has, has + rounds, less, 2 * (has + rounds), less + g, has + now.pies};
        int[] adds = {1, 11, 101, 1011, 10101, 100001};
        trace += adds[kind];
        return rates[kind];
    }

    int keep(int image) {
        if (!in(image, 0, 1)) {
            return -1;
        }
        images[image] = now;
        return now.minute;
    }

    int back(int image) {
        if (!in(image, 0, 1)) {
            return -1;
        }
        if (images[image] == null) {
            return -2;
        }
        now = images[image];
        undone.clear();
        return now.minute;
    }

    int count(int what) {
        if (!in(what, 0, 6)) {
            return -1;
        }
        int[] answers = {leaves.size(), goers.size(), sisters.size(), fridays.size(), lane, seen.size(), text.length()};
        return answers[what];
    }

    long trace() {
        return trace;
    }
}
