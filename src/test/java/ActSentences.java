/** Promises 41 to 43: acts, the trace, what a tree is taken for. */
final class ActSentences extends Group {
    /** Of each kind, the kinds that it can be taken for. */
    private static final String[] IS = {"0", "01", "02", "03", "014", "025", "036"};

    @Override
    void all() {
        acting();
        bodies();
        found();
        trace();
        taken();
    }

    /** Trees of kinds 0 to 5, as many as that, then one of the last kind. */
    private static TreeToTree grown() {
        TreeToTree x = new TreeToTree();
        int[] v = {3, 2, 4, 1, 2, 3};
        for (int kind = 0; kind < 6; kind++) x.tree(kind, v[kind], 0, 0);
        return x;
    }

    private static TreeToTree told() {
        TreeToTree x = new TreeToTree();
        x.tree(0, 0, 0, 0);
        x.tree(6, 4, 0, 0);
        return x;
    }

    private void act(TreeToTree x, int tree, int act, int n, int want, int... bodies) {
        String call = "act(" + tree + ", " + act + ", " + n + ")";
        due(call, x.act(tree, act, n), want);
        for (int i = 0; i < bodies.length; i++) due(call + ": trace(" + i + ")", x.trace(i), bodies[i]);
        due(call + ": behind the trace", x.trace(bodies.length), NONE);
        due(call + ": count(7)", x.count(7), bodies.length);
    }

    private void acting() {
        says(41, "An ACT (0 holds, 1 drips, 2 tells) of a TREE with x.");
        act(grown(), 0, 0, 5, 5, 1);
        act(grown(), 0, 1, 5, 2, 2, 1);
        act(grown(), 0, 2, 5, 4, 3, 2, 1);

        TreeToTree x = says(41, "0, and no TRACE then: no such TREE, act.");
        due("no tree yet", x.act(0, 0, 5), 0);
        int[][] wrong = {{6, 0}, {-1, 0}, {Integer.MAX_VALUE, 1}, {Integer.MIN_VALUE, 2}, {0, 3}, {0, -1},
            {0, Integer.MAX_VALUE}, {0, Integer.MIN_VALUE}, {6, 3}};
        x = grown();
        for (int[] call : wrong) {
            due("an act", x.act(3, 2, 5), 9);
            act(x, call[0], call[1], 5, 0);
        }

        says(41, "ACTS of a TREE with x (ints, wrapping): holds, drips, tells;");
        act(grown(), 1, 0, Integer.MAX_VALUE, Integer.MAX_VALUE * 3 + 1, 11, 1);
        act(grown(), 1, 2, Integer.MAX_VALUE, (Integer.MAX_VALUE * 3 + 1 - 2) * 2, 3, 2, 11, 1);
        act(grown(), 1, 0, 715827882, Integer.MAX_VALUE, 11, 1);
        act(grown(), 1, 0, 715827883, Integer.MIN_VALUE + 2, 11, 1);
        act(grown(), 2, 0, Integer.MAX_VALUE, Integer.MIN_VALUE + 1, 1);
        act(grown(), 0, 1, Integer.MIN_VALUE, Integer.MAX_VALUE - 2, 2, 1);
        act(grown(), 2, 1, Integer.MIN_VALUE + 2, Integer.MIN_VALUE, 21, 2, 1);
        act(grown(), 0, 2, 1 << 30, (1 << 31) - 6, 3, 2, 1);
        act(grown(), 4, 2, Integer.MIN_VALUE, (Integer.MAX_VALUE * 3 + 4 - 2) * 2 + 10, 41, 3, 2, 11, 1, 11, 1);

        says(41, "i its number.");
        act(grown(), 2, 0, 5, 7, 1);
        act(grown(), 3, 0, 5, 8, 1);
        act(grown(), 5, 0, 5, 10 ^ 5, 51, 1);
    }

    private void bodies() {
        says(41, "BODIES: TREE: 1 holds: x + i. 2 drips: holds(x) - v. 3 tells: drips(x) * 2.");
        act(grown(), 0, 0, -5, -5, 1);
        act(grown(), 0, 1, 0, -3, 2, 1);
        act(grown(), 0, 2, 0, -6, 3, 2, 1);

        says(41, "THICK: 11 holds: super.holds(x * 3).");
        act(grown(), 1, 0, 5, 16, 11, 1);
        act(grown(), 1, 0, -5, -14, 11, 1);

        says(41, "THIN: 21 drips: -super.drips(x).");
        act(grown(), 2, 1, 5, -3, 21, 2, 1);
        act(grown(), 2, 1, -5, 7, 21, 2, 1);

        says(41, "LATE: 31 tells: super.tells(x) ^ 7.");
        act(grown(), 3, 2, 5, 14 ^ 7, 31, 3, 2, 1);
        act(grown(), 3, 2, -5, -6 ^ 7, 31, 3, 2, 1);

        says(41, "HOLLOW: 41 tells: super.tells(x - 1) + holds(2).");
        act(grown(), 4, 2, 5, 28 + 10, 41, 3, 2, 11, 1, 11, 1);
        act(grown(), 4, 2, 0, -2 + 10, 41, 3, 2, 11, 1, 11, 1);

        says(41, "BROAD: 51 holds: super.holds(x) ^ i.");
        act(grown(), 5, 0, 5, 15, 51, 1);
        act(grown(), 5, 0, 8, 8, 51, 1);

        says(41, "TOLD: 61 drips: super.drips(x) + v.");
        act(told(), 1, 1, 5, 6, 61, 2, 1);
        act(told(), 1, 1, -5, -4, 61, 2, 1);
    }

    private void found() {
        says(41, "holds(..) and so on: the body of its KIND, or, if that has none, of the next KIND above that has one;");
        act(grown(), 1, 1, 5, 14, 2, 11, 1);
        act(grown(), 1, 2, 5, 28, 3, 2, 11, 1);
        act(grown(), 2, 0, 5, 7, 1);
        act(grown(), 2, 2, 5, -6, 3, 21, 2, 1);
        act(grown(), 3, 1, 5, 7, 2, 1);
        act(grown(), 4, 0, 5, 19, 11, 1);
        act(grown(), 4, 1, 5, 17, 2, 11, 1);
        act(grown(), 5, 1, 5, -12, 21, 2, 51, 1);
        act(grown(), 5, 2, 5, -24, 3, 21, 2, 51, 1);
        act(told(), 1, 0, 5, 6, 1);

        says(41, "super.holds(..): so from the KIND above the body's on;");
        act(told(), 1, 2, 5, 12 ^ 7, 31, 3, 61, 2, 1);
        act(grown(), 5, 1, 8, -(8 - 3), 21, 2, 51, 1);
        act(grown(), 4, 2, 1, 2 * (4 - 2) + 10, 41, 3, 2, 11, 1, 11, 1);

        says(41, "what stands in a body is done from the left on.");
        // holds(2) of HOLLOW runs behind super.tells, which ends with the bodies 11 and 1, too.
        TreeToTree x = grown();
        x.act(4, 2, 5);
        for (int i = 0; i < 7; i++) due("trace(" + i + ")", x.trace(i), new int[] {41, 3, 2, 11, 1, 11, 1}[i]);
    }

    private void trace() {
        TreeToTree x = says(42, "THE TRACE's i-th body.");
        x.tree(0, 0, 0, 0);
        x.act(0, 2, 5);
        due("0", x.trace(0), 3);
        due("1", x.trace(1), 2);
        due("2", x.trace(2), 1);

        x = says(42, "NONE.");
        due("no act yet", x.trace(0), NONE);
        x.tree(0, 0, 0, 0);
        x.act(0, 2, 5);
        for (int i : new int[] {-1, 3, 19, 20, Integer.MIN_VALUE, Integer.MAX_VALUE}) due("" + i, x.trace(i), NONE);

        says(42, "THE TRACE: the numbers of the bodies that ran in the latest act(), as they began;");
        x = grown();
        act(x, 4, 2, 5, 38, 41, 3, 2, 11, 1, 11, 1);
        act(x, 0, 0, 5, 5, 1);
        act(x, 3, 2, 5, 9, 31, 3, 2, 1);
        x.straight(0, 0);
        x.as(0, 0);
        x.of(0, 4);
        due("not by other calls", x.count(7), 4);

        x = says(42, "the first 20 are kept.");
        for (int i = 0; i < 4; i++) x.tree(4, 0, 0, 0);
        for (int i = 0; i < 4; i++) x.act(i, 2, 5);
        due("the sixth", x.trace(5), 11);
        due("the seventh", x.trace(6), 1);
        due("no act runs more", x.trace(7), NONE);
    }

    private void taken() {
        TreeToTree x = says(43, "A TREE taken for a KIND k (0 .. 6), or one under that: its v.");
        x.tree(6, 9, 0, 0);
        due("a told one for a told one", x.as(0, 6), 9);
        due("for a late one", x.as(0, 3), 9);
        due("for a tree", x.as(0, 0), 9);
        x.tree(0, 0, 0, 0);
        due("v 0", x.as(1, 0), 0);

        x = says(43, "NONE: tree, k;");
        due("no tree yet", x.as(0, 0), NONE);
        x.tree(0, 0, 0, 0);
        for (int k : new int[] {-1, 7, Integer.MIN_VALUE, Integer.MAX_VALUE}) due("k " + k, x.as(0, k), NONE);
        for (int tree : new int[] {-1, 1, 6, Integer.MIN_VALUE, Integer.MAX_VALUE}) {
            due("tree " + tree, x.as(tree, 0), NONE);
            due("tree " + tree + ", of no kind either", x.as(tree, 7), NONE);
        }

        x = says(43, "-6: it is of another KIND.");
        x.tree(0, 5, 0, 0);
        x.tree(3, 5, 0, 0);
        due("a tree for a thick one", x.as(0, 1), OTHER_KIND);
        due("a late one for a told one", x.as(1, 6), OTHER_KIND);
        due("a late one for a thin one", x.as(1, 2), OTHER_KIND);

        says(43, "0 TREE; 1 THICK, 2 THIN, 3 LATE under TREE; 4 HOLLOW under THICK; 5 BROAD under THIN; 6 TOLD under LATE;");
        for (int kind = 0; kind < 7; kind++) {
            x = new TreeToTree();
            x.tree(kind, kind + 2, 0, 0);
            for (int k = 0; k < 7; k++) {
                int want = IS[kind].indexOf('0' + k) >= 0 ? kind + 2 : OTHER_KIND;
                due("kind " + kind + " as " + k, x.as(0, k), want);
            }
        }
    }
}
