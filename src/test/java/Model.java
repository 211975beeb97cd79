import java.util.ArrayList;
import java.util.Arrays;
import java.util.List;

/**
 * The document once more, in the slowest and plainest form, for comparing: nothing here is taken
 * from the program, faults are found by trying all ways to go on, and ways by trying all of them.
 */
final class Model {
    static final int[] ABOVE = {-1, 0, 0, 0, 1, 2, 3};

    static final class ModelTree {
        int kind, v, holds, place;
        int[] row = new int[4];
    }

    /** All that an image keeps. */
    static final class World {
        int minute, home = 60, seen;
        String tape = "";
        List<String> parks = new ArrayList<>();
        List<ModelTree> trees = new ArrayList<>();
        List<int[]> walkers = new ArrayList<>(), legs = new ArrayList<>();
        List<int[]> rules = new ArrayList<>(), book = new ArrayList<>();

        World copy() {
            World w = new World();
            w.minute = minute;
            w.home = home;
            w.seen = seen;
            w.tape = tape;
            w.parks.addAll(parks);
            for (ModelTree t : trees) {
                ModelTree c = new ModelTree();
                c.kind = t.kind;
                c.v = t.v;
                c.holds = t.holds;
                c.place = t.place;
                c.row = t.row.clone();
                w.trees.add(c);
            }
            for (int[] a : walkers) w.walkers.add(a.clone());
            for (int[] a : legs) w.legs.add(a.clone());
            for (int[] a : rules) w.rules.add(a.clone());
            for (int[] a : book) w.book.add(a.clone());
            return w;
        }
    }

    World w = new World();
    World image;
    List<Integer> trace = new ArrayList<>();
    private int[][] rains = new int[7][];

    void changed() {
        rains = new int[7][];
    }

    // ---- the text of a park

    static boolean isPark(String text) {
        String[] clauses = text.split(";", -1);
        if (clauses.length > 10) return false;
        for (String clause : clauses) {
            if (clause.matches("(soak|wait) (0|[1-9][0-9]?)")) continue;
            if (!clause.matches("(?s)(rain|less) (0|[1-9][0-9]?) .*")) return false;
            if (!isChoice(clause.substring(clause.indexOf(' ', 5) + 1), 0)) return false;
        }
        return true;
    }

    /** The parts between the signs that stand in no bracket; null if brackets do not match. */
    static List<String> parts(String text, char sign) {
        List<String> parts = new ArrayList<>();
        int open = 0;
        int start = 0;
        for (int i = 0; i < text.length(); i++) {
            char c = text.charAt(i);
            if (c == '(') open++;
            if (c == ')') open--;
            if (open < 0) return null;
            if (c == sign && open == 0) {
                parts.add(text.substring(start, i));
                start = i + 1;
            }
        }
        if (open != 0) return null;
        parts.add(text.substring(start));
        return parts;
    }

    static boolean isChoice(String text, int open) {
        List<String> terms = parts(text, '|');
        if (terms == null) return false;
        for (String term : terms) {
            List<String> factors = parts(term, '&');
            if (factors == null) return false;
            for (String factor : factors) {
                if (!isFactor(factor, open)) return false;
            }
        }
        return true;
    }

    static boolean isFactor(String text, int open) {
        if (text.startsWith("!")) return open < 5 && isFactor(text.substring(1), open + 1);
        if (text.startsWith("(")) {
            return open < 5 && text.endsWith(")") && text.length() > 1
                && isChoice(text.substring(1, text.length() - 1), open + 1);
        }
        return text.matches("[mhtkv][<=>](0|[1-9][0-9]?)");
    }

    static boolean canGoOn(String text) {
        String[] ends = {"soak 1", "wait 1", "rain 1 m=1", "less 1 m=1"};
        for (String end : ends) {
            for (int from = 0; from <= end.length(); from++) {
                String longer = text + end.substring(from);
                for (int close = 0; close <= 5; close++) {
                    if (isPark(longer)) return true;
                    longer += ")";
                }
            }
        }
        return false;
    }

    /** -1: it is a park. */
    static int fault(String text) {
        for (int i = 0; i < text.length(); i++) {
            if (!canGoOn(text.substring(0, i + 1))) return i;
        }
        return isPark(text) ? -1 : text.length();
    }

    static boolean holdsSo(String text, int minute, int t, int k, int v) {
        for (String term : parts(text, '|')) {
            boolean all = true;
            for (String factor : parts(term, '&')) all &= factorSo(factor, minute, t, k, v);
            if (all) return true;
        }
        return false;
    }

    static boolean factorSo(String text, int minute, int t, int k, int v) {
        if (text.startsWith("!")) return !factorSo(text.substring(1), minute, t, k, v);
        if (text.startsWith("(")) return holdsSo(text.substring(1, text.length() - 1), minute, t, k, v);
        int n = Integer.parseInt(text.substring(2));
        int left = switch (text.charAt(0)) {
            case 'm' -> minute % 10;
            case 'h' -> minute / 10;
            case 't' -> t;
            case 'k' -> k;
            default -> v;
        };
        return switch (text.charAt(1)) {
            case '<' -> left < n;
            case '=' -> left == n;
            default -> left > n;
        };
    }

    private String[] clauses() {
        return w.parks.isEmpty() ? new String[0] : w.parks.get(w.parks.size() - 1).split(";");
    }

    private int lastOf(String word, int without) {
        int n = without;
        for (String c : clauses()) {
            if (c.startsWith(word)) n = Integer.parseInt(c.substring(5));
        }
        return n;
    }

    int soak() {
        return lastOf("soak", 99);
    }

    int waitCost() {
        return lastOf("wait", 1);
    }

    /** Tree -1: without one. */
    int rainOf(int tree, int minute) {
        if (rains[tree + 1] == null) {
            rains[tree + 1] = new int[1800];
            Arrays.fill(rains[tree + 1], -1);
        }
        int[] known = rains[tree + 1];
        if (known[minute] < 0) known[minute] = rainAnew(tree, minute);
        return known[minute];
    }

    private int rainAnew(int tree, int minute) {
        int k = tree < 0 ? 9 : w.trees.get(tree).kind;
        int v = tree < 0 ? 9 : w.trees.get(tree).v;
        int t = tree < 0 ? 9 : tree;
        int sum = 4;
        for (String c : clauses()) {
            if (c.startsWith("soak") || c.startsWith("wait")) continue;
            int blank = c.indexOf(' ', 5);
            int n = Integer.parseInt(c.substring(5, blank));
            if (!holdsSo(c.substring(blank + 1), minute, t, k, v)) continue;
            sum += c.startsWith("rain") ? n : -n;
        }
        return Math.max(0, sum);
    }

    /** F at a minute; G is F at the minute ahead. */
    private int fallen(int tree, int minute) {
        int sum = 0;
        for (int i = 0; i <= minute; i++) sum += rainOf(tree, i);
        return sum;
    }

    int wetUnder(int tree, int minute) {
        ModelTree t = w.trees.get(tree);
        int f = fallen(tree, minute);
        switch (t.kind) {
            case 0: return asTree(tree, minute);
            case 1: return asTree(tree, minute) / 2;
            case 4: return minute % (t.v + 1) == 0 ? 0 : asTree(tree, minute) / 2;
            case 2: return asThin(tree, minute);
            case 5: return Math.max(0, asThin(tree, minute) - 1);
            default:
                int late = minute - t.v < 0 ? 0 : asTree(tree, minute - t.v);
                if (late == 0 && f > t.holds) late = 1;
                if (t.kind == 6 && f > t.holds) late += t.row[minute % 4];
                return late;
        }
    }

    private int asTree(int tree, int minute) {
        int holds = w.trees.get(tree).holds;
        return Math.max(0, fallen(tree, minute) - holds) - Math.max(0, fallen(tree, minute - 1) - holds);
    }

    private int asThin(int tree, int minute) {
        ModelTree t = w.trees.get(tree);
        int rain = rainOf(tree, minute);
        return fallen(tree, minute) < t.holds ? Math.max(0, rain - t.v) : rain;
    }

    // ---- ways: legs are {tree or -1, waiting}; the answer is {wet, minutes, cost}

    int[] wayOf(int pace, int coat, int begins, List<int[]> legs) {
        List<int[]> all = new ArrayList<>(legs);
        if (all.isEmpty() || all.get(all.size() - 1)[0] != -1) all.add(new int[] {-1, 0});
        int minute = begins;
        int place = 0;
        int got = 0;
        for (int[] leg : all) {
            int to = leg[0] == -1 ? w.home : w.trees.get(leg[0]).place;
            for (int yards = Math.abs(to - place); yards > 0; yards -= pace) got += rainOf(-1, minute++);
            place = to;
            for (int i = 0; i < leg[1]; i++) got += wetUnder(leg[0], minute++);
        }
        return ended(got, coat, minute - begins);
    }

    int[] ended(int got, int coat, int minutes) {
        int wet = Math.min(soak(), Math.max(0, got - coat));
        return new int[] {wet, minutes, wet + waitCost() * minutes};
    }

    int[] straightOf(int walker, int later) {
        int[] who = w.walkers.get(walker);
        return wayOf(who[0], who[1], w.minute + later, List.of());
    }

    /** What driest or cheapest answer, by what; leftOut is no tree to go to. */
    int[] bestOf(int walker, boolean byCost, int leftOut) {
        int[] who = w.walkers.get(walker);
        int[] best = null;
        for (List<int[]> legs : allWays(leftOut)) {
            int[] end = wayOf(who[0], who[1], w.minute, legs);
            int[] found = {byCost ? end[2] : end[0], end[1], legs.size(), -5, -5, -5, -5};
            for (int i = 0; i < legs.size(); i++) {
                found[3 + 2 * i] = legs.get(i)[0];
                found[4 + 2 * i] = legs.get(i)[1];
            }
            if (best == null || Arrays.compare(found, best) < 0) best = found;
        }
        return best;
    }

    private List<List<int[]>> allWays(int leftOut) {
        List<List<int[]>> ways = new ArrayList<>();
        ways.add(List.of());
        for (int a = 0; a < w.trees.size(); a++) {
            for (int i = 0; i < 10 && a != leftOut; i++) {
                ways.add(List.of(new int[] {a, i}));
                for (int b = 0; b < w.trees.size(); b++) {
                    for (int j = 0; j < 10 && b != a && b != leftOut; j++) {
                        ways.add(List.of(new int[] {a, i}, new int[] {b, j}));
                    }
                }
            }
        }
        return ways;
    }

    int[] ruledOf(int walker) {
        int[] who = w.walkers.get(walker);
        int minute = w.minute;
        int place = 0;
        int got = 0;
        for (int[] rule : w.rules) {
            if (wetUnder(rule[0], minute) >= rule[1]) continue;
            int to = w.trees.get(rule[0]).place;
            for (int yards = Math.abs(to - place); yards > 0; yards -= who[0]) got += rainOf(-1, minute++);
            place = to;
            int waited = 0;
            while (waited < 20 && wetUnder(rule[0], minute) < rule[1]) {
                got += wetUnder(rule[0], minute++);
                waited++;
            }
        }
        for (int yards = Math.abs(w.home - place); yards > 0; yards -= who[0]) got += rainOf(-1, minute++);
        return ended(got, who[1], minute - w.minute);
    }

    // ---- acts: bodies by the name of the act, and which kind each stands in

    private static int bodyIn(int kind, int act) {
        String found = kind + ":" + act;
        return switch (found) {
            case "0:0" -> 1;
            case "0:1" -> 2;
            case "0:2" -> 3;
            case "1:0" -> 11;
            case "2:1" -> 21;
            case "3:2" -> 31;
            case "4:2" -> 41;
            case "5:0" -> 51;
            case "6:1" -> 61;
            default -> 0;
        };
    }

    int acted(int tree, int act, int x) {
        return from(tree, w.trees.get(tree).kind, act, x);
    }

    private int from(int tree, int kind, int act, int x) {
        ModelTree t = w.trees.get(tree);
        int k = kind;
        while (bodyIn(k, act) == 0) k = ABOVE[k];
        int body = bodyIn(k, act);
        trace.add(body);
        switch (body) {
            case 1: return x + tree;
            case 2: return acted(tree, 0, x) - t.v;
            case 3: return acted(tree, 1, x) * 2;
            case 11: return from(tree, ABOVE[k], 0, x * 3);
            case 21: return -from(tree, ABOVE[k], 1, x);
            case 31: return from(tree, ABOVE[k], 2, x) ^ 7;
            case 41: {
                int left = from(tree, ABOVE[k], 2, x - 1);
                return left + acted(tree, 0, 2);
            }
            case 51: return from(tree, ABOVE[k], 0, x) ^ tree;
            default: return from(tree, ABOVE[k], 1, x) + t.v;
        }
    }

    boolean isUnder(int kind, int k) {
        for (int i = kind; i >= 0; i = ABOVE[i]) {
            if (i == k) return true;
        }
        return false;
    }
}
