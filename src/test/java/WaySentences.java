/** Promises 16 to 18 and 21 to 24: ways, waiting, how soon one is wet. */
final class WaySentences extends Group {
    private static final int[] NOBODY = {-1, 1, 5, Integer.MIN_VALUE, Integer.MAX_VALUE};

    @Override
    void all() {
        ways();
        amounts();
        straight();
        changesNothing();
        legs();
        refusedLegs();
        way();
        stay();
        soaked();
        dry();
        drips();
    }

    private void ways() {
        TreeToTree x = says(17, "A way of a WALKER: a row of legs, each to a TREE or HOME,"
            + " with how long it waits there (0 .. 20; at HOME: 0).");
        x.walker(20, 0);
        x.tree(0, 0, 99, 20);
        due("20", x.leg(0, 20), 1);
        due("minutes", x.way(0, 1), 23);
        due("21", x.leg(0, 21), BAD);
        due("0", x.leg(0, 0), 2);
        due("minutes still", x.way(0, 1), 23);
        due("1 at home", x.leg(-1, 1), BAD);
        due("20 at home", x.leg(-1, 20), BAD);
        due("0 at home", x.leg(-1, 0), 3);
        due("minutes home", x.way(0, 1), 23);

        x = says(18, "From PLACE 0, at MINUTE now.");
        x.walker(20, 0);
        x.tree(0, 0, 99, 40);
        x.leg(0, 0);
        Checks.park(x, "rain 10 m=5");
        due("40 yards and 20", x.way(0, 1), 3);
        due("at 0", x.way(0, 0), 12);
        x.go(3);
        due("at 3", x.way(0, 0), 22);
        x.go(3);
        due("at 6", x.way(0, 0), 12);

        x = says(16, "A leg over d yards takes d by PACE MINUTES (cut up), in each of which it gets OPEN;");
        x.walker(7, 0);
        int[][] minutes = {{0, 0}, {1, 1}, {6, 1}, {7, 1}, {8, 2}, {63, 9}, {64, 10}, {99, 15}};
        for (int[] yards : minutes) {
            x.home(yards[0]);
            due("minutes over " + yards[0], x.straight(0, 1), yards[1]);
            due("wet over " + yards[0], x.straight(0, 0), 4 * yards[1]);
        }
        x = new TreeToTree();
        x.walker(7, 0);
        x.tree(0, 0, 99, 64);
        x.leg(0, 0);
        due("each leg cut up, backward too", x.way(0, 1), 10 + 1);

        x = says(16, "OPEN (under no TREE): RAIN without one.");
        x.walker(20, 0);
        x.tree(0, 0, 0, 0);
        Checks.park(x, "rain 9 t=0;rain 1 t=9");
        due("wet", x.straight(0, 0), 15);

        x = says(18, "then, for each MINUTE that it waits under a TREE, UNDER.");
        x.walker(20, 0);
        x.tree(0, 0, 10, 20);
        x.tree(2, 3, 99, 40);
        x.leg(0, 3);
        due("minutes 1 to 3", x.way(0, 0), 4 + 0 + 2 + 4 + 4 + 4);
        x.leg(1, 2);
        due("minutes 5 and 6", x.way(0, 0), 4 + 6 + 4 + 2 + 4);
    }

    private void amounts() {
        TreeToTree x = says(16, "What it gets, together, less COAT (0 at least), SOAK at most: WET.");
        x.walker(20, 5);
        due("12 less 5", x.straight(0, 0), 7);
        x.gear(0, 20, 11);
        due("12 less 11", x.straight(0, 0), 1);
        x.gear(0, 20, 12);
        due("12 less 12", x.straight(0, 0), 0);
        x.gear(0, 20, 13);
        due("12 less 13", x.straight(0, 0), 0);
        Checks.park(x, "soak 10");
        x.gear(0, 7, 30);
        due("36 less 30", x.straight(0, 0), 6);
        x.gear(0, 7, 26);
        due("36 less 26", x.straight(0, 0), 10);
        x.gear(0, 7, 20);
        due("36 less 20, 10 at most", x.straight(0, 0), 10);

        x = says(16, "COST: WET, and WAIT for each MINUTE till the end of the way.");
        x.walker(20, 5);
        x.tree(0, 0, 99, 0);
        Checks.park(x, "wait 7;soak 3");
        due("3 minutes", x.straight(0, 2), 3 + 21);
        x.leg(0, 4);
        due("4 of waiting and 3", x.way(0, 2), 3 + 49);
        x.home(0);
        due("none", x.straight(0, 2), 0);
        x.home(99);
        x.gear(0, 1, 99);
        due("99 minutes", x.straight(0, 2), 3 + 99 * 7);
    }

    private void straight() {
        TreeToTree x = says(16, "STRAIGHT: what 0 WET, 1 MINUTES, 2 COST.");
        x.walker(7, 1);
        due("wet", x.straight(0, 0), 35);
        due("minutes", x.straight(0, 1), 9);
        due("cost", x.straight(0, 2), 44);

        x = says(16, "NONE.");
        due("nobody yet", x.straight(0, 0), NONE);
        x.walker(7, 0);
        for (int walker : NOBODY) due("walker " + walker, x.straight(walker, 0), NONE);
        for (int what : new int[] {-1, 3, Integer.MIN_VALUE, Integer.MAX_VALUE}) {
            due("what " + what, x.straight(0, what), NONE);
        }

        x = says(16, "STRAIGHT of a WALKER: the way that goes HOME at once: WET, MINUTES, COST.");
        x.walker(7, 0);
        x.tree(0, 0, 99, 0);
        for (int i = 0; i < 4; i++) x.leg(0, 20);
        x.rule(0, 20);
        due("not by the legs", x.straight(0, 1), 9);
        x.home(0);
        due("at home: wet", x.straight(0, 0), 0);
        due("at home: minutes", x.straight(0, 1), 0);
        due("at home: cost", x.straight(0, 2), 0);
        x.home(99);
        x.gear(0, 1, 0);
        due("far: minutes", x.straight(0, 1), 99);
        due("far: wet", x.straight(0, 0), 99);
    }

    /** The longest way of all, which begins at the last minute. */
    private void changesNothing() {
        TreeToTree x = says(18, "All that follows is asked, goes on from how all is"
            + " (MINUTES as long as need be, from MINUTE now on),");
        Checks.park(x, "wait 0;less 4 m<3|m>3;less 3 m=3");
        go(x, 999);
        x.walker(1, 0);
        x.tree(2, 4, 0, 99);
        x.tree(2, 4, 0, 0);
        x.home(99);
        for (int i = 0; i < 4; i++) x.leg(i % 2, 20);
        due("minutes", x.way(0, 1), 5 * 99 + 80);
        due("wet by 1 at 1003, 1013 and so on till 1573, the last minute", x.way(0, 0), 58);
        for (int i = 0; i < 4; i++) x.rule(i % 2, 9);
        due("minutes by a rule", x.ruled(0, 1), 5 * 99 + 80);
        due("wet by a rule", x.ruled(0, 0), 58);
        x.gear(0, 20, 0);
        x.hold(0, 99);
        due("as all is now", x.way(0, 1), 5 * 5 + 80);
        Checks.park(x, "less 4 h>99");
        due("it stops in 1", x.stops(), 1);
        due("begun in 1 it is dry", x.begin(0, 30), 1);
        due("wet for a minute", x.straight(0, 0), 4);

        x = says(18, "and changes nothing.");
        Scene.fill(x);
        String before = Scene.of(x);
        Scene.askAll(x);
        due("all is as before", Scene.of(x).equals(before) ? 1 : 0, 1);
        due("the image is as before", x.undo(), 2);
        due("all is as in the image", Scene.of(x).equals(before) ? 1 : 0, 1);
    }

    private void legs() {
        TreeToTree x = says(17, "A leg comes to THE WAY: to a TREE (-1: HOME; wait -1: none then, 0), waiting so long: how many there are.");
        x.walker(20, 0);
        x.tree(0, 0, 99, 20);
        x.tree(0, 0, 99, 99);
        due("first", x.leg(0, 3), 1);
        due("second", x.leg(1, 5), 2);
        due("minutes", x.way(0, 1), 1 + 3 + 4 + 5 + 2);
        due("home", x.leg(-1, 0), 3);
        due("none by a tree", x.leg(0, -1), 0);
        due("count(3)", x.count(3), 0);
        due("minutes", x.way(0, 1), 3);
        due("none of none", x.leg(0, -1), 0);
        due("first again", x.leg(1, 0), 1);
        due("none by home", x.leg(-1, -1), 0);
        due("home alone", x.leg(-1, 0), 1);
        due("minutes", x.way(0, 1), 3);
        for (int tree : new int[] {2, 6, -2, Integer.MIN_VALUE, Integer.MAX_VALUE}) {
            due("none by tree " + tree, x.leg(tree, -1), 0);
            due("one again", x.leg(0, 0), 1);
        }
        due("none on a new object", new TreeToTree().leg(0, -1), 0);
    }

    private void refusedLegs() {
        TreeToTree x = says(17, "NONE: tree;");
        due("no tree yet", x.leg(0, 0), NONE);
        x.tree(0, 0, 0, 0);
        for (int tree : new int[] {1, -2, 6, Integer.MIN_VALUE, Integer.MAX_VALUE}) {
            due("tree " + tree, x.leg(tree, 0), NONE);
            due("tree " + tree + " ahead of bad", x.leg(tree, 21), NONE);
        }
        x.leg(-1, 0);
        due("none ahead of state", x.leg(1, 0), NONE);
        x.leg(0, -1);
        for (int i = 0; i < 4; i++) x.leg(0, 0);
        due("none ahead of full", x.leg(1, 0), NONE);

        x = says(17, "BAD: wait;");
        x.tree(0, 0, 0, 0);
        for (int wait : new int[] {21, -2, Integer.MIN_VALUE, Integer.MAX_VALUE}) {
            due("wait " + wait, x.leg(0, wait), BAD);
            due("wait " + wait + " at home", x.leg(-1, wait), BAD);
        }
        due("1 at home", x.leg(-1, 1), BAD);
        due("count(3)", x.count(3), 0);
        x.leg(-1, 0);
        due("bad ahead of state", x.leg(0, 21), BAD);
        due("bad at home ahead of state", x.leg(-1, 1), BAD);
        x.leg(0, -1);
        for (int i = 0; i < 4; i++) x.leg(0, 0);
        due("bad ahead of full", x.leg(0, 21), BAD);

        x = says(17, "STATE: it ends at HOME already;");
        x.tree(0, 0, 0, 0);
        x.leg(-1, 0);
        due("a tree behind home", x.leg(0, 0), STATE);
        due("home behind home", x.leg(-1, 0), STATE);
        due("count(3)", x.count(3), 1);
        x.leg(0, -1);
        for (int i = 1; i <= 3; i++) x.leg(0, 0);
        due("home as the fourth", x.leg(-1, 0), 4);
        due("state ahead of full", x.leg(0, 0), STATE);
        due("state ahead of full, home", x.leg(-1, 0), STATE);

        x = says(17, "FULL: 4.");
        x.tree(0, 0, 0, 0);
        for (int i = 1; i <= 4; i++) due("leg " + i, x.leg(0, 20), i);
        due("a fifth", x.leg(0, 0), FULL);
        due("home as the fifth", x.leg(-1, 0), FULL);
        due("count(3)", x.count(3), 4);
    }

    private void way() {
        TreeToTree x = says(18, "THE WAY: what 0 WET, 1 MINUTES, 2 COST.");
        x.tree(0, 0, 10, 30);
        x.walker(10, 1);
        x.leg(0, 2);
        due("wet", x.way(0, 0), 31);
        due("minutes", x.way(0, 1), 8);
        due("cost", x.way(0, 2), 39);

        x = says(18, "NONE.");
        due("nobody yet", x.way(0, 0), NONE);
        x.walker(7, 0);
        for (int walker : NOBODY) due("walker " + walker, x.way(walker, 0), NONE);
        for (int what : new int[] {-1, 3, Integer.MIN_VALUE, Integer.MAX_VALUE}) {
            due("what " + what, x.way(0, what), NONE);
        }

        x = says(18, "THE WAY, told by hand (4 legs at most; a last one HOME is added, if it does not end there):"
            + " of a WALKER: WET, MINUTES, COST.");
        x.walker(20, 0);
        x.walker(10, 50);
        x.tree(0, 0, 99, 20);
        x.tree(0, 0, 99, 40);
        due("no legs", x.way(0, 1), 3);
        x.leg(0, 2);
        due("home is added", x.way(0, 1), 1 + 2 + 2);
        x.leg(1, 3);
        x.leg(0, 0);
        x.leg(1, 1);
        due("home is added to four", x.way(0, 1), 1 + 2 + 1 + 3 + 1 + 0 + 1 + 1 + 1);
        due("of another walker: minutes", x.way(1, 1), 16);
        due("of another walker: wet", x.way(1, 0), 0);
        x.leg(0, -1);
        x.leg(0, 2);
        x.leg(-1, 0);
        due("home is there", x.way(0, 1), 5);
        x.home(0);
        due("home is elsewhere", x.way(0, 1), 4);
        x.leg(0, -1);
        x.leg(0, 20);
        x.leg(0, 20);
        due("twice the same tree", x.way(0, 1), 42);
    }

    private void stay() {
        TreeToTree x = says(21, "STAY: what 0 the waiting, 1 COST.");
        Checks.park(x, "less 4 m=0|m=5");
        x.walker(20, 0);
        x.tree(0, 0, 99, 20);
        due("waiting", x.stay(0, 0, 0), 3);
        due("cost", x.stay(0, 0, 1), 10);

        x = says(21, "NONE.");
        due("nobody yet", x.stay(0, 0, 0), NONE);
        x.walker(20, 0);
        due("no tree yet", x.stay(0, 0, 0), NONE);
        x.tree(0, 0, 99, 20);
        for (int walker : NOBODY) due("walker " + walker, x.stay(walker, 0, 0), NONE);
        for (int tree : new int[] {-1, 1, 6}) due("tree " + tree, x.stay(0, tree, 0), NONE);
        for (int what : new int[] {-1, 2, 3}) due("what " + what, x.stay(0, 0, what), NONE);

        x = says(21, "STAY of a WALKER and a TREE: if it goes there first: the waiting (0 .. 20) by which,"
            + " going HOME then, COST is least");
        Checks.park(x, "wait 0;less 4 h>1");
        x.walker(20, 0);
        x.tree(0, 0, 99, 0);
        due("20", x.stay(0, 0, 0), 20);
        due("cost", x.stay(0, 0, 1), 0);
        Checks.park(x, "wait 0;less 4 h>2|h=2&m>0");
        due("20, though 21 were better", x.stay(0, 0, 0), 20);
        due("cost", x.stay(0, 0, 1), 4);
        Checks.park(x, "wait 2");
        due("0", x.stay(0, 0, 0), 0);
        due("cost", x.stay(0, 0, 1), 18);
        x.tree(0, 0, 99, 99);
        due("there first", x.stay(0, 1, 1), 5 * 4 + 2 * 4 + 7 * 2);

        x = says(21, "(of several the least);");
        Checks.park(x, "wait 0;less 4 m=0|m=5");
        x.walker(20, 0);
        x.tree(0, 0, 99, 20);
        due("3, 4, 8 and so on", x.stay(0, 0, 0), 3);
        Checks.park(x, "wait 2;less 4 m>5|h>0");
        x.tree(0, 0, 99, 0);
        due("0 and 6", x.stay(0, 1, 0), 0);

        x = says(21, "that COST.");
        Checks.park(x, "wait 3;soak 9");
        x.walker(20, 0);
        x.tree(0, 0, 99, 40);
        due("cost", x.stay(0, 0, 1), 9 + 9);
        x.gear(0, 20, 5);
        due("with a coat", x.stay(0, 0, 1), 7 + 9);
    }

    private void soaked() {
        TreeToTree x = says(22, "SOAKED; -5.");
        x.walker(1, 0);
        due("25", x.soaked(0), 25);
        Checks.park(x, "less 4 h<99");
        due("-5", x.soaked(0), NOTHING);

        x = says(22, "NONE.");
        due("nobody yet", x.soaked(0), NONE);
        x.walker(1, 0);
        for (int walker : NOBODY) due("walker " + walker, x.soaked(walker), NONE);

        x = says(22, "SOAKED of a WALKER: if it stands in the OPEN from now on:"
            + " behind how many MINUTES (0 .. 60) WET is SOAK");
        x.walker(1, 0);
        x.tree(0, 0, 99, 0);
        Checks.park(x, "soak 0");
        due("0", x.soaked(0), 0);
        Checks.park(x, "soak 4;rain 9 t=0");
        due("1", x.soaked(0), 1);
        x.gear(0, 1, 1);
        due("2 with a coat", x.soaked(0), 2);
        Checks.park(x, "soak 1;less 4 m<5");
        x.gear(0, 1, 0);
        due("6", x.soaked(0), 6);
        x.go(4);
        due("2 from 4 on", x.soaked(0), 2);
        x.go(12);
        due("1 from 16 on", x.soaked(0), 1);
        Checks.park(x, "soak 60;less 3 h<99");
        due("60", x.soaked(0), 60);

        x = says(22, "(-5: not by then).");
        x.walker(1, 0);
        Checks.park(x, "soak 61;less 3 h<99");
        due("61", x.soaked(0), NOTHING);
        x.gear(0, 1, 99);
        Checks.park(x, "soak 0;less 3 h<99");
        due("0 in a coat", x.soaked(0), 0);
        Checks.park(x, "soak 1;less 3 h<99");
        due("1 in a coat", x.soaked(0), NOTHING);
    }

    private void dry() {
        TreeToTree x = says(23, "DRY; -5.");
        x.tree(0, 0, 99, 0);
        due("24", x.dry(0), 24);
        Checks.park(x, "less 4 h<99");
        due("-5", x.dry(0), NOTHING);

        x = says(23, "NONE.");
        due("no tree yet", x.dry(0), NONE);
        x.tree(0, 0, 0, 0);
        for (int tree : NOBODY) due("tree " + tree, x.dry(tree), NONE);

        x = says(23, "DRY of a TREE: the first MINUTE from now on (0 .. 60 more) at which UNDER is above 0:"
            + " how many MINUTES more");
        x.tree(0, 0, 3, 0);
        x.tree(0, 0, 4, 0);
        due("0", x.dry(0), 0);
        due("1", x.dry(1), 1);
        x.go(1);
        due("now", x.dry(1), 0);
        x.go(1);
        due("now, though it was wet ahead of that", x.dry(1), 0);
        x = new TreeToTree();
        Checks.park(x, "less 3 h<99");
        x.tree(0, 0, 60, 0);
        due("60", x.dry(0), 60);
        x.hold(0, 99);
        x.go(39);
        due("60 from 39 on", x.dry(0), 60);
        x.go(1);
        due("59 from 40 on", x.dry(0), 59);

        x = says(23, "how many MINUTES more (-5: none).");
        Checks.park(x, "less 3 h<99");
        x.tree(0, 0, 61, 0);
        x.tree(4, 0, 0, 0);
        due("61", x.dry(0), NOTHING);
        due("never", x.dry(1), NOTHING);
    }

    private void drips() {
        TreeToTree x = says(24, "DRIPS.");
        Checks.park(x, "less 4 h>0");
        x.tree(3, 2, 10, 0);
        due("50", x.drips(0), 50);

        x = says(24, "NONE.");
        due("no tree yet", x.drips(0), NONE);
        x.tree(0, 0, 0, 0);
        for (int tree : NOBODY) due("tree " + tree, x.drips(tree), NONE);

        x = says(24, "DRIPS of a TREE: how many of 60 MINUTES from now it drips (UNDER is above 0) though there is no RAIN at it.");
        Checks.park(x, "less 4 m>0|h>0");
        x.tree(3, 0, 0, 0);
        x.tree(0, 0, 0, 0);
        x.tree(3, 0, 4, 0);
        due("1 to 59", x.drips(0), 59);
        due("as it rains alone", x.drips(1), 0);
        due("never above 0", x.drips(2), 0);
        x.go(1);
        due("1 to 60", x.drips(0), 60);
        x.go(1);
        due("2 to 61, and not 1", x.drips(0), 60);
        x = new TreeToTree();
        Checks.park(x, "less 4 m<9|m=9&h<5;less 4 t=1");
        x.tree(3, 9, 0, 0);
        x.go(59);
        due("now it rains, the 60 of 59 to 118 but 59, 69 and so on", x.drips(0), 54);
        x = new TreeToTree();
        Checks.park(x, "rain 5 t=0;less 4 t=9;less 9 t=1");
        x.tree(3, 0, 0, 0);
        x.tree(3, 0, 0, 0);
        due("rain at the tree", x.drips(0), 0);
        due("never rain at the tree", x.drips(1), 0);
    }
}
