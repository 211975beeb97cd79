/** Promises 16 to 24: ways. */
public final class WaysTest {
    private static final int NONE = -1, BAD = -2, STATE = -3, FULL = -4, NOTHING = -5;
    private static final Checks checks = new Checks("WaysTest");

    /** Three walks of a minute each, which are dry at minutes 0, 5 and 10 alone. */
    private static final String GAPS = "less 4 m=0|m=5";

    public static void main(String[] args) {
        straight();
        legs();
        way();
        driest();
        ties();
        cheapest();
        stay();
        soaked();
        dry();
        drips();
        farthest();
        checks.end();
    }

    private static void due(String call, long got, long want) {
        checks.due(call, got, want);
    }

    private static void straight() {
        TreeToTree x = new TreeToTree();
        x.walker(7, 0);
        x.walker(20, 5);
        due("16: wet, cut up", x.straight(0, 0), 36);
        due("16: minutes", x.straight(0, 1), 9);
        due("16: cost", x.straight(0, 2), 45);
        due("16: coat", x.straight(1, 0), 7);
        x.gear(1, 20, 12);
        due("16: just dry", x.straight(1, 0), 0);
        x.gear(1, 20, 99);
        due("16: not below 0", x.straight(1, 0), 0);
        due("16: cost when dry", x.straight(1, 2), 3);
        Checks.park(x, "soak 10;wait 3");
        due("16: soaked", x.straight(0, 0), 10);
        due("16: cost", x.straight(0, 2), 37);
        x.gear(0, 7, 30);
        due("16: soak behind the coat", x.straight(0, 0), 6);
        x.home(0);
        due("16: at home", x.straight(0, 1), 0);
        due("16: what 3", x.straight(0, 3), NONE);
        due("16: what -1", x.straight(0, -1), NONE);
        due("16: walker 2", x.straight(2, 0), NONE);
        due("16: changes nothing", x.told(0), 0);
        x.home(20);
        Checks.park(x, "rain 6 m=5");
        x.gear(0, 20, 0);
        due("16: now", x.straight(0, 0), 4);
        x.go(5);
        due("16: from now", x.straight(0, 0), 10);
    }

    private static void legs() {
        TreeToTree x = new TreeToTree();
        due("17: none then, though there is no tree", x.leg(0, -1), 0);
        due("17: no tree", x.leg(0, 0), NONE);
        x.tree(0, 0, 10, 30);
        due("17: tree 1", x.leg(1, 0), NONE);
        due("17: tree -2", x.leg(-2, 0), NONE);
        due("17: none ahead of bad", x.leg(1, 21), NONE);
        due("17: wait 21", x.leg(0, 21), BAD);
        due("17: wait -2", x.leg(0, -2), BAD);
        due("17: home waits not", x.leg(-1, 1), BAD);
        for (int i = 1; i <= 4; i++) due("17: leg " + i, x.leg(0, 20), i);
        due("17: full", x.leg(0, 0), FULL);
        due("17: full for home", x.leg(-1, 0), FULL);
        due("17: bad ahead of full", x.leg(0, 21), BAD);
        due("17: none then", x.leg(0, -1), 0);
        due("17: count", x.count(3), 0);
        due("17: again", x.leg(0, 0), 1);
        due("17: home", x.leg(-1, 0), 2);
        due("17: behind home", x.leg(0, 0), STATE);
        due("17: home behind home", x.leg(-1, 0), STATE);
        due("17: bad ahead of state", x.leg(-1, 2), BAD);
        due("17: none by home", x.leg(-1, -1), 0);
        due("17: count", x.count(3), 0);
        due("17: home at once", x.leg(-1, 0), 1);
        due("17: behind that", x.leg(0, 0), STATE);
        int[] whatever = {0, 1, 9, -2, Integer.MIN_VALUE, Integer.MAX_VALUE};
        for (int tree : whatever) {
            due("17: none then, whatever the tree", x.leg(tree, -1), 0);
            due("17: count", x.count(3), 0);
            due("17: a leg again", x.leg(0, 0), 1);
        }
        x.leg(0, -1);
        for (int i = 1; i <= 3; i++) x.leg(0, 0);
        due("17: home as the fourth", x.leg(-1, 0), 4);
        due("17: state ahead of full", x.leg(0, 0), STATE);
    }

    private static void way() {
        TreeToTree x = new TreeToTree();
        x.tree(0, 0, 10, 30);
        x.tree(2, 3, 99, 99);
        x.walker(10, 0);
        due("18: no legs", x.way(0, 0), 24);
        x.leg(0, 2);
        due("18: wet", x.way(0, 0), 32);
        due("18: minutes", x.way(0, 1), 8);
        due("18: cost", x.way(0, 2), 40);
        x.leg(-1, 0);
        due("18: home told", x.way(0, 1), 8);
        x.leg(0, -1);
        x.leg(1, 3);
        due("18: beyond home: 10 minutes, 3 of 1, 4 minutes", x.way(0, 0), 40 + 3 + 16);
        due("18: minutes", x.way(0, 1), 17);
        x.leg(0, 0);
        x.leg(0, 1);
        due("18: back, stay, home", x.way(0, 1), 10 + 3 + 7 + 0 + 1 + 3);
        due("18: what 3", x.way(0, 3), NONE);
        due("18: walker 1", x.way(1, 0), NONE);
        due("18: walker -1", x.way(-1, 0), NONE);
    }

    private static TreeToTree gaps(String more) {
        TreeToTree x = new TreeToTree();
        Checks.park(x, GAPS + more);
        x.walker(20, 0);
        x.tree(0, 0, 99, 20);
        x.tree(0, 0, 99, 40);
        return x;
    }

    private static void all(String call, TreeToTree x, boolean byCost, int... wants) {
        for (int what = 0; what < 7; what++) {
            due(call + " what " + what, byCost ? x.cheapest(0, what) : x.driest(0, what), wants[what]);
        }
    }

    private static void driest() {
        TreeToTree x = gaps("");
        all("19: by two trees", x, false, 0, 11, 2, 0, 4, 1, 4);
        TreeToTree turned = new TreeToTree();
        Checks.park(turned, GAPS);
        turned.walker(20, 0);
        turned.tree(0, 0, 99, 40);
        turned.tree(0, 0, 99, 20);
        all("19: by two trees, the second first", turned, false, 0, 11, 2, 1, 4, 0, 4);
        // Dry walks are at 0, 5 and 16 alone: waiting 10 minutes is not among the ways.
        Checks.park(turned, "less 4 m=0&h=0|m=5&h=0|m=6&h=1");
        all("19: 9 at most", turned, false, 4, 6, 1, 0, 3, NOTHING, NOTHING);
        Checks.park(turned, "less 4 m=0&h=0|m=5&h=0|m=5&h=1");
        all("19: 9 under the second", turned, false, 0, 16, 2, 1, 4, 0, 9);
        x.gear(0, 20, 4);
        all("19: by one tree, with a coat", x, false, 0, 6, 1, 0, 3, NOTHING, NOTHING);
        x.gear(0, 20, 8);
        all("19: straight, with a coat", x, false, 0, 3, 0, NOTHING, NOTHING, NOTHING, NOTHING);
        due("19: what 7", x.driest(0, 7), NONE);
        due("19: what -1", x.driest(0, -1), NONE);
        due("19: walker 1", x.driest(1, 0), NONE);
        x.gear(0, 20, 0);
        x.go(1);
        // at minute 1 a first walk is wet, so that the best goes at 1, 5, 10
        due("19: from now", x.driest(0, 0), 4);
        due("19: minutes", x.driest(0, 1), 10);
    }

    private static void ties() {
        TreeToTree x = new TreeToTree();
        Checks.park(x, "less 4 h=1");
        x.walker(20, 0);
        x.tree(0, 0, 99, 0);
        x.tree(0, 0, 99, 20);
        all("19: the lesser tree of two alike", x, false, 4, 12, 1, 0, 9, NOTHING, NOTHING);
        TreeToTree y = new TreeToTree();
        y.walker(20, 99);
        y.tree(0, 0, 99, 0);
        y.home(0);
        all("19: no tree of ways alike", y, false, 0, 0, 0, NOTHING, NOTHING, NOTHING, NOTHING);
        TreeToTree s = new TreeToTree();
        Checks.park(s, "less 4 m>2|h>0");
        s.walker(20, 4);
        s.tree(0, 0, 99, 10);
        s.tree(0, 0, 99, 20);
        all("19: the sooner one, though of the second tree", s, false, 0, 5, 1, 1, 2, NOTHING, NOTHING);
        TreeToTree z = new TreeToTree();
        z.walker(20, 0);
        for (int i = 0; i < 6; i++) z.tree(0, 0, 0, 99);
        due("19: leaking trees", z.driest(0, 2), 0);
    }

    private static void cheapest() {
        all("20: wait 1", gaps(""), true, 10, 6, 1, 0, 3, NOTHING, NOTHING);
        all("20: wait 0", gaps(";wait 0"), true, 0, 11, 2, 0, 4, 1, 4);
        all("20: wait 9", gaps(";wait 9"), true, 35, 3, 0, NOTHING, NOTHING, NOTHING, NOTHING);
        TreeToTree x = gaps(";wait 2;soak 6");
        all("20: soaked", x, true, 12, 3, 0, NOTHING, NOTHING, NOTHING, NOTHING);
        due("20: what 7", x.cheapest(0, 7), NONE);
        due("20: what -1", x.cheapest(0, -1), NONE);
        due("20: walker 1", x.cheapest(1, 0), NONE);
    }

    private static void stay() {
        TreeToTree x = gaps("");
        due("21: waiting", x.stay(0, 0, 0), 3);
        due("21: cost", x.stay(0, 0, 1), 10);
        due("21: the other", x.stay(0, 1, 0), 3);
        TreeToTree y = gaps(";wait 0");
        // Walks at 0 and 5 are all that can be dry by this tree: waiting 3 and more come to the same.
        due("21: the least of alike ones", y.stay(0, 0, 0), 3);
        due("21: cost", y.stay(0, 0, 1), 4);
        TreeToTree z = new TreeToTree();
        Checks.park(z, "wait 0;less 4 h>1");
        z.walker(20, 0);
        z.tree(0, 0, 99, 0);
        due("21: 20 at most", z.stay(0, 0, 0), 20);
        due("21: none wet then", z.stay(0, 0, 1), 0);
        TreeToTree w = new TreeToTree();
        w.walker(20, 0);
        w.tree(0, 0, 99, 20);
        due("21: not at all", w.stay(0, 0, 0), 0);
        due("21: cost of that", w.stay(0, 0, 1), 15);
        due("21: what 2", x.stay(0, 0, 2), NONE);
        due("21: what -1", x.stay(0, 0, -1), NONE);
        due("21: walker 1", x.stay(1, 0, 0), NONE);
        due("21: tree 2", x.stay(0, 2, 0), NONE);
        due("21: tree -1", x.stay(0, -1, 0), NONE);
    }

    private static void soaked() {
        TreeToTree x = new TreeToTree();
        x.walker(1, 0);
        x.walker(1, 99);
        due("22: no coat", x.soaked(0), 25);
        due("22: coat", x.soaked(1), 50);
        due("22: walker 2", x.soaked(2), NONE);
        due("22: walker -1", x.soaked(-1), NONE);
        Checks.park(x, "less 1 h<99");
        x.gear(0, 1, 81);
        x.gear(1, 1, 82);
        due("22: just by then", x.soaked(0), 60);
        due("22: not by then", x.soaked(1), NOTHING);
        Checks.park(x, "soak 0;less 9 h<99");
        due("22: soaked at once", x.soaked(1), 0);
        Checks.park(x, "soak 1;less 4 m<5");
        x.gear(0, 1, 0);
        due("22: later rain", x.soaked(0), 6);
        x.go(4);
        due("22: from now", x.soaked(0), 2);
        x.go(12);
        due("22: from now, with rain ahead", x.soaked(0), 1);
        x.gear(0, 1, 7);
        due("22: and a coat", x.soaked(0), 2);
    }

    private static void dry() {
        TreeToTree x = new TreeToTree();
        x.tree(0, 0, 99, 0);
        due("23: till 24", x.dry(0), 24);
        x.go(10);
        due("23: from now", x.dry(0), 14);
        x.go(14);
        due("23: now", x.dry(0), 0);
        due("23: tree 1", x.dry(1), NONE);
        due("23: tree -1", x.dry(-1), NONE);
        TreeToTree y = new TreeToTree();
        Checks.park(y, "less 3 h<99");
        y.tree(0, 0, 60, 0);
        y.tree(0, 0, 61, 0);
        due("23: the last", y.dry(0), 60);
        due("23: none", y.dry(1), NOTHING);
    }

    private static void drips() {
        TreeToTree x = new TreeToTree();
        Checks.park(x, "less 4 h>0");
        x.tree(3, 2, 10, 0);
        x.tree(0, 0, 10, 0);
        x.tree(3, 5, 99, 0);
        x.tree(6, 1, 0, 0);
        due("24: late", x.drips(0), 50);
        due("24: tree", x.drips(1), 0);
        due("24: never full", x.drips(2), 0);
        due("24: told", x.drips(3), 50);
        x.go(60);
        due("24: all 60", x.drips(0), 60);
        due("24: tree 4", x.drips(4), NONE);
        due("24: tree -1", x.drips(-1), NONE);
        TreeToTree y = new TreeToTree();
        Checks.park(y, "rain 5 t=0;less 4 t=9;less 9 t=1");
        y.tree(3, 0, 0, 0);
        y.tree(3, 0, 0, 0);
        due("24: rain at the tree", y.drips(0), 0);
        due("24: never rained at the tree", y.drips(1), 0);
    }

    /** The longest way of all, which begins at the last minute. */
    private static void farthest() {
        TreeToTree x = new TreeToTree();
        Checks.park(x, "wait 0;less 3 h<99|h>98");
        for (int i = 0; i < 16; i++) x.go(60);
        x.go(39);
        x.walker(1, 99);
        x.tree(2, 4, 0, 99);
        x.tree(2, 4, 0, 0);
        x.home(99);
        x.leg(0, 20);
        x.leg(1, 20);
        x.leg(0, 20);
        x.leg(1, 20);
        due("18: minutes", x.way(0, 1), 5 * 99 + 80);
        due("18: wet", x.way(0, 0), 99);
        due("18: home by night", x.straight(0, 0), 0);
        Checks.park(x, "less 4 m<3|m>3;less 3 m=3");
        x.gear(0, 1, 0);
        x.hold(0, 0);
        due("18: wet by 1 at 1003, 1013 and so on till 1573, the last minute", x.way(0, 0), 58);
    }
}
