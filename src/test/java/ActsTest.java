/** Promises 41 to 46: acts, the image. */
public final class ActsTest {
    private static final int NONE = -1, STATE = -3, OTHER_KIND = -6;
    private static final Checks checks = new Checks("ActsTest");

    public static void main(String[] args) {
        acts();
        told();
        wrongActs();
        wrapping();
        as();
        image();
        imageOfTreesAndParks();
        traceIsNotInTheImage();
        count();
        checks.end();
    }

    private static void due(String call, long got, long want) {
        checks.due(call, got, want);
    }

    private static TreeToTree grown() {
        TreeToTree x = new TreeToTree();
        int[] v = {3, 2, 4, 1, 2, 3};
        for (int kind = 0; kind < 6; kind++) x.tree(kind, v[kind], 0, 0);
        return x;
    }

    private static void act(TreeToTree x, int tree, int act, int n, int want, int... bodies) {
        String call = "41: act(" + tree + ", " + act + ", " + n + ")";
        due(call, x.act(tree, act, n), want);
        for (int i = 0; i < bodies.length; i++) due("42: " + call + " trace " + i, x.trace(i), bodies[i]);
        due("42: " + call + " behind", x.trace(bodies.length), NONE);
        due("42: " + call + " ahead", x.trace(-1), NONE);
        due("46: " + call + " bodies", x.count(7), bodies.length);
    }

    private static void acts() {
        TreeToTree x = grown();
        act(x, 0, 0, 5, 5, 1);
        act(x, 0, 1, 5, 2, 2, 1);
        act(x, 0, 2, 5, 4, 3, 2, 1);
        act(x, 1, 0, 5, 16, 11, 1);
        act(x, 1, 1, 5, 14, 2, 11, 1);
        act(x, 1, 2, 5, 28, 3, 2, 11, 1);
        act(x, 2, 0, 5, 7, 1);
        act(x, 2, 1, 5, -3, 21, 2, 1);
        act(x, 2, 2, 5, -6, 3, 21, 2, 1);
        act(x, 3, 1, 5, 7, 2, 1);
        act(x, 3, 2, 5, 9, 31, 3, 2, 1);
        act(x, 4, 0, 5, 19, 11, 1);
        act(x, 4, 2, 5, 38, 41, 3, 2, 11, 1, 11, 1);
        act(x, 5, 0, 5, 15, 51, 1);
        act(x, 5, 1, 5, -12, 21, 2, 51, 1);
        act(x, 5, 2, 5, -24, 3, 21, 2, 51, 1);
    }

    private static void told() {
        TreeToTree x = new TreeToTree();
        x.tree(0, 0, 0, 0);
        x.tree(6, 4, 0, 0);
        act(x, 1, 0, 5, 6, 1);
        act(x, 1, 1, 5, 6, 61, 2, 1);
        act(x, 1, 2, 5, 12 ^ 7, 31, 3, 61, 2, 1);
    }

    private static void wrongActs() {
        TreeToTree x = grown();
        int[][] wrong = {{6, 0}, {-1, 0}, {0, 3}, {0, -1}};
        for (int[] call : wrong) {
            x.act(0, 2, 5);
            act(x, call[0], call[1], 5, 0);
        }
    }

    private static void wrapping() {
        TreeToTree x = grown();
        act(x, 1, 0, Integer.MAX_VALUE, Integer.MAX_VALUE * 3 + 1, 11, 1);
        act(x, 1, 2, Integer.MAX_VALUE, (Integer.MAX_VALUE * 3 + 1 - 2) * 2, 3, 2, 11, 1);
        act(x, 2, 1, Integer.MIN_VALUE, -(Integer.MIN_VALUE + 2 - 4), 21, 2, 1);
        act(x, 4, 2, Integer.MIN_VALUE, (Integer.MAX_VALUE * 3 + 4 - 2) * 2 + 10, 41, 3, 2, 11, 1, 11, 1);
    }

    private static void as() {
        TreeToTree x = new TreeToTree();
        int[][] kinds = {{0}, {1, 0}, {2, 0}, {3, 0}, {4, 1, 0}, {5, 2, 0}, {6, 3, 0}};
        for (int first = 0; first < 7; first += 6) {
            x = new TreeToTree();
            for (int kind = first; kind < Math.min(7, first + 6); kind++) {
                int tree = x.tree(kind, kind + 2, 0, 0);
                for (int k = 0; k < 7; k++) {
                    boolean is = false;
                    for (int above : kinds[kind]) is |= above == k;
                    due("43: kind " + kind + " as " + k, x.as(tree, k), is ? kind + 2 : OTHER_KIND);
                }
            }
        }
        due("43: k -1", x.as(0, -1), NONE);
        due("43: k 7", x.as(0, 7), NONE);
        due("43: tree 1", x.as(1, 0), NONE);
        due("43: tree -1", x.as(-1, 0), NONE);
    }

    private static void image() {
        TreeToTree x = new TreeToTree();
        due("45: none yet", x.undo(), STATE);
        due("44: no trees", x.image(), 0);
        due("45: no trees", x.undo(), 0);
        x.tree(6, 1, 10, 20);
        x.walker(10, 5);
        x.row(0, 1, 7);
        x.leg(0, 3);
        x.rule(0, 4);
        x.book(0, 5, 6);
        x.feed('s');
        x.see(8);
        x.home(50);
        x.go(9);
        due("44: one", x.image(), 1);
        for (int times = 0; times < 2; times++) {
            x.hold(0, 30);
            x.row(0, 1, 2);
            x.gear(0, 11, 6);
            x.walker(1, 1);
            x.leg(-1, 0);
            x.rule(0, 5);
            x.book(-1, 0, 0);
            x.feed('x');
            x.see(9);
            x.home(51);
            x.go(10);
            due("45: one", x.undo(), 1);
            due("45: holds", x.of(0, 2), 10);
            due("45: walkers", x.count(1), 1);
            due("45: pace", x.at(0, 0), 10);
            due("45: coat", x.at(0, 1), 5);
            due("45: legs", x.count(3), 1);
            due("45: rows of the rule", x.count(4), 1);
            due("45: rows of the book", x.count(5), 1);
            due("45: looked", x.looked(), 0);
            due("45: signs", x.count(6), 1);
            due("45: minute", x.told(0), 9);
            due("45: home", x.told(3), 50);
        }
        due("45: row", x.row(0, 1, 7), 7);
        due("45: seen", x.see(0), 8);
        Checks.feed(x, "oak 5");
        due("45: the tape", x.park(), 0);
    }

    private static void imageOfTreesAndParks() {
        TreeToTree x = new TreeToTree();
        Checks.park(x, "rain 1 m<99");
        x.tree(0, 0, 0, 0);
        x.image();
        due("45: rain by then", x.under(0, 0), 5);
        x.tree(1, 5, 9, 9);
        Checks.park(x, "rain 2 m<99;rain 3 t=1");
        due("45: rain of the second", x.under(0, 0), 6);
        due("45: at the second", x.rain(1, 0), 9);
        due("45: trees", x.undo(), 1);
        due("45: no second tree", x.of(1, 0), NONE);
        due("45: one park", x.count(2), 1);
        due("45: rain as it was", x.under(0, 0), 5);
        due("45: another second tree", x.tree(2, 7, 1, 2), 1);
        due("45: its kind", x.of(1, 0), 2);
        due("45: its rain", x.rain(1, 0), 5);
        due("45: another second park", Checks.park(x, "soak 9"), 1);
        due("45: it holds", x.told(1), 9);
        due("45: back", x.undo(), 1);
        due("45: soak", x.told(1), 99);
        due("45: rain", x.rain(0, 0), 5);
        Checks.park(x, "rain 3 k=1;rain 6 v=8");
        x.image();
        x.tree(1, 0, 0, 0);
        due("45: rain at a thick one", x.rain(1, 0), 7);
        x.undo();
        x.tree(2, 8, 0, 0);
        due("45: rain at another in its stead", x.rain(1, 0), 10);
        TreeToTree y = new TreeToTree();
        y.image();
        Checks.park(y, "soak 9;wait 5;rain 8 m<9");
        due("45: to no park", y.undo(), 0);
        due("45: parks", y.count(2), 0);
        due("45: soak without", y.told(1), 99);
        due("45: wait without", y.told(2), 1);
        due("45: rain without", y.told(4), 4);
        due("45: the first park again", Checks.park(y, "soak 3"), 0);
        y.image();
        Checks.park(y, "soak ");
        y.undo();
        due("45: behind a fault", y.told(1), 3);
    }

    private static void traceIsNotInTheImage() {
        TreeToTree x = grown();
        x.act(0, 0, 1);
        x.image();
        x.act(3, 2, 5);
        x.undo();
        due("45: trace stays", x.trace(0), 31);
        due("45: its size stays", x.count(7), 4);
        due("45: the image stays", x.undo(), 6);
    }

    private static void count() {
        TreeToTree x = grown();
        x.walker(1, 1);
        x.walker(1, 1);
        for (int i = 0; i < 3; i++) Checks.park(x, "soak 1");
        x.leg(0, 0);
        for (int i = 0; i < 4; i++) x.rule(0, 0);
        for (int i = 0; i < 5; i++) x.book(0, 0, 0);
        Checks.feed(x, "1234567");
        x.act(4, 2, 0);
        int[] counts = {6, 2, 3, 1, 4, 5, 7, 7};
        for (int what = 0; what < 8; what++) due("46: " + what, x.count(what), counts[what]);
        due("46: -1", x.count(-1), NONE);
        due("46: 8", x.count(8), NONE);
    }
}
