/** Promises 19 and 20: the driest way and the cheapest. */
final class DriestSentences extends Group {
    /** Dry at minutes 0, 5, 10 and so on alone. */
    private static final String GAPS = "less 4 m=0|m=5";
    private static final String TILL_NINE = "less 4 h=0&m=9|h>0";
    private static final String TILL_FIFTEEN = "less 4 h=1&m>4|h>1";

    @Override
    void all() {
        answers();
        refusals();
        ways();
        leastWet();
        ties();
        cheapest();
    }

    private void driest(TreeToTree x, int... wants) {
        for (int what = 0; what < wants.length; what++) due("driest(0, " + what + ")", x.driest(0, what), wants[what]);
    }

    private void cheapest(TreeToTree x, int... wants) {
        for (int what = 0; what < wants.length; what++) due("cheapest(0, " + what + ")", x.cheapest(0, what), wants[what]);
    }

    /** One walker of pace 20, and trees that hold 99, at these places. */
    private static TreeToTree with(String text, int... places) {
        TreeToTree x = parked(text);
        x.walker(20, 0);
        for (int place : places) x.tree(0, 0, 99, place);
        return x;
    }

    private void answers() {
        says(19, "DRIEST: what 0 WET, 1 MINUTES, 2 how many TREES, 3 the first, 4 its waiting,"
            + " 5 the second, 6 its waiting; -5.");
        driest(with(GAPS, 20, 40), 0, 11, 2, 0, 4, 1, 4);

        says(19, "WET; MINUTES; how many TREES; the first; its waiting; the second; its waiting (-5: there is none).");
        driest(with("wait 1", 20, 40), 12, 3, 0, NOTHING, NOTHING, NOTHING, NOTHING);
        driest(with("wait 1"), 12, 3, 0, NOTHING, NOTHING, NOTHING, NOTHING);
        driest(with(TILL_NINE, 0), 0, 12, 1, 0, 9, NOTHING, NOTHING);
        driest(with(GAPS, 40, 20), 0, 11, 2, 1, 4, 0, 4);
    }

    private void refusals() {
        TreeToTree x = says(19, "NONE.");
        due("nobody yet", x.driest(0, 0), NONE);
        x.walker(20, 0);
        for (int walker : new int[] {-1, 1, 5, Integer.MIN_VALUE}) due("walker " + walker, x.driest(walker, 0), NONE);
        for (int what : new int[] {-1, 7, Integer.MAX_VALUE}) due("what " + what, x.driest(0, what), NONE);

        x = says(20, "NONE.");
        due("nobody yet", x.cheapest(0, 0), NONE);
        x.walker(20, 0);
        for (int walker : new int[] {-1, 1, 5, Integer.MIN_VALUE}) due("walker " + walker, x.cheapest(walker, 0), NONE);
        for (int what : new int[] {-1, 7, Integer.MAX_VALUE}) due("what " + what, x.cheapest(0, what), NONE);
    }

    private void ways() {
        says(19, "DRIEST of a WALKER: of all ways of at most two legs to TREES");
        // By three of them all walks of 15 yards were dry.
        driest(with(GAPS, 15, 30, 45), 4, 11, 2, 0, 3, 2, 4);

        says(19, "(two unlike ones),");
        driest(with(TILL_FIFTEEN, 0), 12, 3, 0, NOTHING, NOTHING, NOTHING, NOTHING);
        driest(with(TILL_FIFTEEN, 0, 0), 0, 18, 2, 0, 6, 1, 9);

        says(19, "waiting 0 .. 9 MINUTES under each, and HOME then,");
        driest(with(TILL_NINE, 0), 0, 12, 1, 0, 9, NOTHING, NOTHING);
        TreeToTree x = with("less 4 h>0", 0);
        x.home(20);
        driest(x, 4, 1, 0, NOTHING, NOTHING, NOTHING, NOTHING);
        driest(with("less 4 h>0", 0, 0), 0, 13, 2, 0, 1, 1, 9);
        x = with(GAPS, 20, 40);
        x.home(40);
        driest(x, 0, 6, 1, 0, 4, NOTHING, NOTHING);
        x.home(41);
        driest(x, 0, 11, 2, 0, 4, 1, 4);
        // It rains on the grass at 2 alone, and the hollow tree is dry at 2, though not at 1.
        x = parked("less 4 t=9&m<2|t=9&m>2");
        x.walker(20, 0);
        x.tree(0, 0, 0, 10);
        x.tree(4, 1, 0, 20);
        driest(x, 0, 5, 2, 0, 0, 1, 1);
    }

    private void leastWet() {
        TreeToTree x = says(19, "that with the least WET");
        Checks.park(x, GAPS);
        x.walker(20, 0);
        x.tree(0, 0, 99, 20);
        x.tree(0, 0, 99, 40);
        driest(x, 0, 11, 2);
        x.gear(0, 20, 4);
        driest(x, 0, 6, 1, 0, 3, NOTHING, NOTHING);
        x.gear(0, 20, 8);
        driest(x, 0, 3, 0, NOTHING, NOTHING, NOTHING, NOTHING);
        x.gear(0, 20, 0);
        x.hold(0, 0);
        driest(x, 4, 6, 1, 1, 3, NOTHING, NOTHING);
        x.hold(0, 99);
        x.go(1);
        driest(x, 4, 10, 2);
        Checks.park(x, "soak 0");
        driest(x, 0, 3, 0);
    }

    private void ties() {
        says(19, "(of several that with the fewest MINUTES,");
        driest(with("less 4 m>4|h>0", 0), 0, 8, 1, 0, 5, NOTHING, NOTHING);
        driest(with("less 4 m>4|h>0", 20, 0), 0, 8, 1, 1, 5, NOTHING, NOTHING);
        // By the first tree it is a minute more to walk.
        TreeToTree x = with("less 4 m>2|h>0", 10, 20);
        x.gear(0, 20, 4);
        driest(x, 0, 5, 1, 1, 2, NOTHING, NOTHING);
        // By one tree it were dry, too, at minutes 0, 7 and 8.
        driest(with("less 4 m=0|m=2|m=4|m>6", 20, 40), 0, 5, 2, 0, 1, 1, 1);

        says(19, "then the first by: fewer legs,");
        driest(with("wait 1", 0), 12, 3, 0, NOTHING, NOTHING, NOTHING, NOTHING);
        driest(with("less 4 m>4|h>0", 0, 0), 0, 8, 1, 0, 5, NOTHING, NOTHING);
        x = parked("less 4 m>4|h>0");
        x.walker(20, 0);
        x.tree(0, 0, 0, 0);
        x.tree(0, 0, 99, 0);
        // The later tree alone comes ahead of the earlier one with no waiting and that one.
        driest(x, 0, 8, 1, 1, 5, NOTHING, NOTHING);

        says(19, "the lesser first TREE,");
        driest(with("less 4 h>0", 0, 0, 0), 0, 13, 2, 0, 1, 1, 9);
        driest(with(TILL_NINE, 0, 0), 0, 12, 1, 0, 9);
        x = with(TILL_FIFTEEN, 20, 0, 0);
        driest(x, 0, 18, 2, 1, 6, 2, 9);

        says(19, "its waiting, the second TREE,");
        // By 0, then 1, it were 4 minutes under the first.
        driest(with(GAPS, 15, 30, 45), 4, 11, 2, 0, 3, 2, 4);
        driest(with(TILL_FIFTEEN, 0, 0, 0), 0, 18, 2, 0, 6, 1, 9);
        x = with(TILL_FIFTEEN, 0, 0, 0);
        x.hold(1, 0);
        driest(x, 0, 18, 2, 0, 6, 2, 9);

        says(19, "its waiting):");
        driest(with(TILL_FIFTEEN, 0, 0), 0, 18, 2, 0, 6, 1, 9);
        driest(with("less 4 h=1&m>6|h>1", 0, 0), 0, 20, 2, 0, 8, 1, 9);
        driest(with("less 4 h=1&m>7|h>1", 0, 0), 0, 21, 2, 0, 9, 1, 9);
        driest(with("less 4 h=1&m>8|h>1", 0, 0), 4, 21, 2, 0, 9, 1, 9);
    }

    private void cheapest() {
        says(20, "CHEAPEST: what 0 COST, else likewise; -5.");
        cheapest(with(GAPS, 20, 40), 10, 6, 1, 0, 3, NOTHING, NOTHING);
        cheapest(with(GAPS + ";wait 0", 20, 40), 0, 11, 2, 0, 4, 1, 4);
        cheapest(with(GAPS + ";wait 9", 20, 40), 35, 3, 0, NOTHING, NOTHING, NOTHING, NOTHING);

        says(20, "CHEAPEST likewise by COST, then MINUTES.");
        String alike = "wait 2;less 4 m>5|h>0";
        cheapest(with(alike, 0), 18, 3, 0, NOTHING, NOTHING, NOTHING, NOTHING);
        driest(with(alike, 0), 0, 9, 1, 0, 6, NOTHING, NOTHING);
        cheapest(with("wait 1;less 4 m>5|h>0", 0), 9, 9, 1, 0, 6, NOTHING, NOTHING);
        cheapest(with("wait 0;less 4 m=0|m=2|m=4|m>6", 20, 40), 0, 5, 2, 0, 1, 1, 1);
        cheapest(with("wait 0;" + TILL_FIFTEEN, 20, 0, 0, 0), 0, 18, 2, 1, 6, 2, 9);
        cheapest(with("wait 0;less 4 m>4|h>0", 0, 0), 0, 8, 1, 0, 5, NOTHING, NOTHING);
        cheapest(with("wait 2;soak 6;" + GAPS, 20, 40), 12, 3, 0, NOTHING, NOTHING, NOTHING, NOTHING);
    }
}
