import java.util.ArrayList;
import java.util.List;

/** The calls of the document's face, answered by the model. */
final class ModelCalls {
    private static final long NO = Long.MIN_VALUE;
    private final Model m = new Model();

    private boolean tree(int i) {
        return i >= 0 && i < m.w.trees.size();
    }

    private boolean walker(int i) {
        return i >= 0 && i < m.w.walkers.size();
    }

    private static boolean in(int n, int from, int to) {
        return from <= n && n <= to;
    }

    long call(String name, int a, int b, int c, int d) {
        return switch (name) {
            case "feed" -> feed(a);
            case "park" -> park();
            case "tree" -> plant(a, b, c, d);
            case "of" -> of(a, b);
            case "hold" -> hold(a, b);
            case "row" -> row(a, b, c);
            case "walker" -> comes(a, b);
            case "at" -> !walker(a) || !in(b, 0, 1) ? -1 : m.w.walkers.get(a)[b];
            case "gear" -> gear(a, b, c);
            case "home" -> home(a);
            case "told" -> told(a);
            case "go" -> go(a);
            case "rain" -> a != -1 && !tree(a) ? -1 : !in(b, 0, 60) ? -2 : m.rainOf(a, m.w.minute + b);
            case "under" -> !tree(a) ? -1 : !in(b, 0, 60) ? -2 : m.wetUnder(a, m.w.minute + b);
            case "straight" -> !walker(a) || !in(b, 0, 2) ? -1 : m.straightOf(a, 0)[b];
            case "leg" -> leg(a, b);
            case "way" -> way(a, b);
            case "driest" -> !walker(a) || !in(b, 0, 6) ? -1 : m.bestOf(a, false, -1)[b];
            case "cheapest" -> !walker(a) || !in(b, 0, 6) ? -1 : m.bestOf(a, true, -1)[b];
            case "stay" -> stay(a, b, c);
            case "soaked" -> soaked(a);
            case "dry" -> dry(a);
            case "drips" -> drips(a);
            default -> more(name, a, b, c);
        };
    }

    private long more(String name, int a, int b, int c) {
        return switch (name) {
            case "coats" -> coats(a);
            case "shared" -> shared(a, b);
            case "run" -> run(a);
            case "begin" -> begin(a, b);
            case "worth" -> worth(a);
            case "first" -> first(a);
            case "stops" -> stops();
            case "see" -> see(a);
            case "stood" -> stood(a, b, c);
            case "who" -> who();
            case "odds" -> odds(a, b, c);
            case "mean" -> mean(a, b, c);
            case "rule" -> rule(a, b);
            case "ruled" -> !walker(a) || !in(b, 0, 1) ? -1 : m.ruledOf(a)[b];
            case "book" -> book(a, b, c);
            case "looked" -> looked();
            case "act" -> act(a, b, c);
            case "trace" -> !in(a, 0, Math.min(20, m.trace.size()) - 1) ? -1 : m.trace.get(a);
            case "as" -> as(a, b);
            case "image" -> image();
            case "undo" -> undo();
            case "count" -> count(a);
            default -> throw new IllegalArgumentException(name);
        };
    }

    private int feed(int sign) {
        if (!in(sign, 0, 127)) return -2;
        if (m.w.tape.length() == 100) return -4;
        m.w.tape += (char) sign;
        return m.w.tape.length();
    }

    private int park() {
        if (m.w.parks.size() == 5) return -4;
        String text = m.w.tape;
        m.w.tape = "";
        int fault = Model.fault(text);
        if (fault >= 0) return -10 - fault;
        m.w.parks.add(text);
        m.changed();
        return m.w.parks.size() - 1;
    }

    private int plant(int kind, int v, int holds, int place) {
        if (!in(kind, 0, 6)) return -1;
        if (!in(v, 0, 9) || !in(holds, 0, 99) || !in(place, 0, 99)) return -2;
        if (m.w.trees.size() == 6) return -4;
        Model.ModelTree t = new Model.ModelTree();
        t.kind = kind;
        t.v = v;
        t.holds = holds;
        t.place = place;
        m.w.trees.add(t);
        m.changed();
        return m.w.trees.size() - 1;
    }

    private int of(int tree, int what) {
        if (!tree(tree) || !in(what, 0, 4)) return -1;
        Model.ModelTree t = m.w.trees.get(tree);
        int now = m.wetUnder(tree, m.w.minute);
        return new int[] {t.kind, t.v, t.holds, t.place, now}[what];
    }

    private int hold(int tree, int n) {
        if (!tree(tree)) return -1;
        if (!in(n, 0, 99)) return -2;
        int was = m.w.trees.get(tree).holds;
        m.w.trees.get(tree).holds = n;
        return was;
    }

    private int row(int tree, int k, int n) {
        if (!tree(tree) || !in(k, 0, 3)) return -1;
        if (!in(n, 0, 9)) return -2;
        if (m.w.trees.get(tree).kind != 6) return -3;
        int was = m.w.trees.get(tree).row[k];
        m.w.trees.get(tree).row[k] = n;
        return was;
    }

    private int comes(int pace, int coat) {
        if (!in(pace, 1, 20) || !in(coat, 0, 99)) return -2;
        if (m.w.walkers.size() == 5) return -4;
        m.w.walkers.add(new int[] {pace, coat});
        return m.w.walkers.size() - 1;
    }

    private int gear(int walker, int pace, int coat) {
        if (!walker(walker)) return -1;
        if (!in(pace, 1, 20) || !in(coat, 0, 99)) return -2;
        int was = m.w.walkers.get(walker)[0];
        m.w.walkers.set(walker, new int[] {pace, coat});
        return was;
    }

    private int home(int place) {
        if (!in(place, 0, 99)) return -2;
        int was = m.w.home;
        m.w.home = place;
        return was;
    }

    private int told(int what) {
        if (!in(what, 0, 4)) return -1;
        return new int[] {m.w.minute, m.soak(), m.waitCost(), m.w.home, m.rainOf(-1, m.w.minute)}[what];
    }

    private int go(int n) {
        if (!in(n, 0, 60)) return -2;
        if (m.w.minute + n > 999) return -3;
        m.w.minute += n;
        return m.w.minute;
    }

    private int leg(int tree, int wait) {
        if (wait == -1) {
            m.w.legs.clear();
            return 0;
        }
        if (tree != -1 && !tree(tree)) return -1;
        if (!in(wait, 0, 20) || tree == -1 && wait != 0) return -2;
        for (int[] leg : m.w.legs) {
            if (leg[0] == -1) return -3;
        }
        if (m.w.legs.size() == 4) return -4;
        m.w.legs.add(new int[] {tree, wait});
        return m.w.legs.size();
    }

    private int way(int walker, int what) {
        if (!walker(walker) || !in(what, 0, 2)) return -1;
        int[] who = m.w.walkers.get(walker);
        return m.wayOf(who[0], who[1], m.w.minute, m.w.legs)[what];
    }

    private int[] by(int walker, int tree, int n) {
        int[] who = m.w.walkers.get(walker);
        return m.wayOf(who[0], who[1], m.w.minute, List.of(new int[] {tree, n}));
    }

    private int stay(int walker, int tree, int what) {
        if (!walker(walker) || !tree(tree) || !in(what, 0, 1)) return -1;
        int best = 0;
        for (int n = 1; n <= 20; n++) {
            if (by(walker, tree, n)[2] < by(walker, tree, best)[2]) best = n;
        }
        return what == 0 ? best : by(walker, tree, best)[2];
    }

    private int soaked(int walker) {
        if (!walker(walker)) return -1;
        int got = 0;
        for (int n = 0; n <= 60; n++) {
            if (m.ended(got, m.w.walkers.get(walker)[1], n)[0] == m.soak()) return n;
            got += m.rainOf(-1, m.w.minute + n);
        }
        return -5;
    }

    private int dry(int tree) {
        if (!tree(tree)) return -1;
        for (int n = 0; n <= 60; n++) {
            if (m.wetUnder(tree, m.w.minute + n) > 0) return n;
        }
        return -5;
    }

    private int drips(int tree) {
        if (!tree(tree)) return -1;
        int count = 0;
        for (int i = m.w.minute; i < m.w.minute + 60; i++) {
            if (m.rainOf(tree, i) == 0 && m.wetUnder(tree, i) > 0) count++;
        }
        return count;
    }

    private int wet(int pace, int coat, int later) {
        return m.wayOf(pace, coat, m.w.minute + later, List.of())[0];
    }

    private int coats(int walker) {
        if (!walker(walker)) return -1;
        for (int coat = 0; coat < 100; coat++) {
            if (wet(m.w.walkers.get(walker)[0], coat, 0) == 0) return coat;
        }
        return -5;
    }

    private int shared(int one, int other) {
        if (!walker(one) || !walker(other)) return -1;
        if (one == other) return -2;
        int[] a = m.w.walkers.get(one);
        int[] b = m.w.walkers.get(other);
        int wet = wet(Math.min(a[0], b[0]), (a[1] + b[1]) / 2, 0);
        return wet + wet;
    }

    private int run(int walker) {
        if (!walker(walker)) return -1;
        int coat = m.w.walkers.get(walker)[1];
        int pace = 1;
        while (wet(pace, coat, 0) > wet(20, coat, 0)) pace++;
        return pace;
    }

    private int begin(int walker, int n) {
        if (!walker(walker)) return -1;
        if (!in(n, 0, 30)) return -2;
        int best = 0;
        for (int i = 1; i <= n; i++) {
            if (m.straightOf(walker, i)[0] < m.straightOf(walker, best)[0]) best = i;
        }
        return best;
    }

    private int worth(int tree) {
        if (!tree(tree)) return -1;
        int sum = 0;
        for (int i = 0; i < m.w.walkers.size(); i++) {
            sum += m.bestOf(i, false, tree)[0] - m.bestOf(i, false, -1)[0];
        }
        return sum;
    }

    private int first(int what) {
        if (!in(what, 0, 1)) return -1;
        int best = -5;
        for (int i = 0; i < m.w.walkers.size(); i++) {
            if (best < 0 || m.straightOf(i, 0)[what] < m.straightOf(best, 0)[what]) best = i;
        }
        return best;
    }

    private int stops() {
        for (int n = 0; n <= 99; n++) {
            int sum = 0;
            for (int i = 0; i < 10; i++) sum += m.rainOf(-1, m.w.minute + n + i);
            if (sum == 0) return n;
        }
        return -5;
    }

    private int see(int n) {
        if (!in(n, 0, 99)) return -2;
        int was = m.w.seen;
        m.w.seen = n;
        return was;
    }

    private int stood(int walker, int tree, int what) {
        if (!walker(walker) || !tree(tree) || !in(what, 0, 1)) return -1;
        List<Integer> found = new ArrayList<>();
        for (int n = 0; n <= 20; n++) {
            if (by(walker, tree, n)[0] == m.w.seen) found.add(n);
        }
        return what == 0 ? found.size() : found.isEmpty() ? -5 : found.get(0);
    }

    private int who() {
        int bits = 0;
        for (int i = 0; i < m.w.walkers.size(); i++) {
            if (m.straightOf(i, 0)[0] == m.w.seen) bits += 1 << i;
        }
        return bits;
    }

    private long fraction(int above, int below, int part) {
        int a = above;
        int b = below;
        while (b != 0) {
            int rest = a % b;
            a = b;
            b = rest;
        }
        return (part == 0 ? above : below) / a;
    }

    private long odds(int walker, int q, int part) {
        if (!walker(walker) || !in(q, 0, 99) || !in(part, 0, 1)) return NO;
        int likely = 0;
        for (int i = 0; i <= 9; i++) likely += m.straightOf(walker, i)[0] <= q ? 1 : 0;
        return fraction(likely, 10, part);
    }

    private long mean(int tree, int n, int part) {
        if (!tree(tree) || !in(n, 1, 60) || !in(part, 0, 1)) return NO;
        int sum = 0;
        for (int i = 0; i < n; i++) sum += m.wetUnder(tree, m.w.minute + i);
        return fraction(sum, n, part);
    }

    private int rule(int tree, int n) {
        if (n == -1) {
            m.w.rules.clear();
            return 0;
        }
        if (!tree(tree)) return -1;
        if (!in(n, 0, 20)) return -2;
        if (m.w.rules.size() == 4) return -4;
        m.w.rules.add(new int[] {tree, n});
        return m.w.rules.size();
    }

    private int book(int tree, int minute, int under) {
        if (tree == -1) {
            m.w.book.clear();
            return 0;
        }
        if (!tree(tree)) return -1;
        if (!in(minute, 0, 999) || !in(under, 0, 99)) return -2;
        if (m.w.book.size() == 8) return -4;
        m.w.book.add(new int[] {tree, minute, under});
        return m.w.book.size();
    }

    private int looked() {
        for (int i = 0; i < m.w.book.size(); i++) {
            int[] row = m.w.book.get(i);
            if (m.wetUnder(row[0], row[1]) != row[2]) return i;
        }
        return -5;
    }

    private int act(int tree, int act, int x) {
        m.trace.clear();
        return tree(tree) && in(act, 0, 2) ? m.acted(tree, act, x) : 0;
    }

    private int as(int tree, int k) {
        if (!tree(tree) || !in(k, 0, 6)) return -1;
        return m.isUnder(m.w.trees.get(tree).kind, k) ? m.w.trees.get(tree).v : -6;
    }

    private int image() {
        m.image = m.w.copy();
        return m.w.trees.size();
    }

    private int undo() {
        if (m.image == null) return -3;
        m.w = m.image.copy();
        m.changed();
        return m.w.trees.size();
    }

    private int count(int what) {
        if (!in(what, 0, 7)) return -1;
        return new int[] {m.w.trees.size(), m.w.walkers.size(), m.w.parks.size(), m.w.legs.size(),
            m.w.rules.size(), m.w.book.size(), m.w.tape.length(), m.trace.size()}[what];
    }
}
