/** Promises 25 to 31: coats, paces, beginnings, what a tree is worth, who is first, when it stops. */
final class CoatSentences extends Group {
    private static final int[] NOBODY = {-1, 2, 5, Integer.MIN_VALUE, Integer.MAX_VALUE};

    @Override
    void all() {
        coats();
        shared();
        run();
        begin();
        worth();
        first();
        stops();
    }

    private void coats() {
        TreeToTree x = says(25, "COATS; -5.");
        x.walker(10, 50);
        due("24", x.coats(0), 24);
        due("its own stays", x.at(0, 1), 50);
        x.gear(0, 1, 0);
        due("-5", x.coats(0), NOTHING);

        x = says(25, "NONE.");
        due("nobody yet", x.coats(0), NONE);
        x.walker(1, 0);
        x.walker(1, 0);
        for (int walker : NOBODY) due("walker " + walker, x.coats(walker), NONE);

        x = says(25, "COATS of a WALKER: the least COAT (0 .. 99) by which STRAIGHT leaves WET 0");
        x.walker(1, 99);
        Checks.park(x, "less 1 h<99");
        x.home(0);
        due("0", x.coats(0), 0);
        x.home(1);
        due("3", x.coats(0), 3);
        x.home(33);
        due("99", x.coats(0), 99);
        Checks.park(x, "rain 5 m=0");
        x.home(1);
        due("9 at 0", x.coats(0), 9);
        x.go(1);
        due("4 at 1", x.coats(0), 4);
        Checks.park(x, "soak 0");
        due("soak 0", x.coats(0), 0);
        Checks.park(x, "soak 1");
        due("soak 1", x.coats(0), 4);

        x = says(25, "leaves WET 0 (-5: none).");
        x.walker(1, 99);
        x.home(25);
        due("100", x.coats(0), NOTHING);
        x.home(24);
        due("96", x.coats(0), 96);
    }

    private void shared() {
        TreeToTree x = says(26, "SHARED.");
        x.walker(10, 0);
        x.walker(20, 8);
        due("20 and 20", x.shared(0, 1), 40);
        due("the other way round", x.shared(1, 0), 40);

        x = says(26, "NONE;");
        due("nobody yet", x.shared(0, 0), NONE);
        x.walker(1, 0);
        x.walker(1, 0);
        for (int walker : NOBODY) {
            due("one " + walker, x.shared(walker, 0), NONE);
            due("other " + walker, x.shared(0, walker), NONE);
            due("both " + walker + ", ahead of bad", x.shared(walker, walker), NONE);
        }

        x = says(26, "BAD: one is both.");
        x.walker(1, 0);
        x.walker(1, 0);
        due("0", x.shared(0, 0), BAD);
        due("1", x.shared(1, 1), BAD);

        x = says(26, "SHARED of two WALKERS: both go STRAIGHT by the lesser PACE,");
        x.walker(6, 0);
        x.walker(20, 0);
        due("10 minutes", x.shared(0, 1), 80);
        x.gear(0, 20, 0);
        x.gear(1, 15, 0);
        due("4 minutes", x.shared(0, 1), 32);

        x = says(26, "each with the half (cut) of both COATS, together:");
        x.walker(20, 5);
        x.walker(20, 4);
        due("4 of 9", x.shared(0, 1), 2 * (12 - 4));
        x.gear(1, 20, 5);
        due("5 of 10", x.shared(0, 1), 2 * (12 - 5));
        x.gear(0, 20, 23);
        x.gear(1, 20, 0);
        due("11 of 23", x.shared(1, 0), 2);
        x.gear(0, 20, 24);
        due("12 of 24", x.shared(1, 0), 0);
        x.gear(0, 20, 99);
        due("49 of 99", x.shared(1, 0), 0);

        x = says(26, "WET of both, together.");
        x.walker(20, 0);
        x.walker(20, 0);
        Checks.park(x, "soak 5");
        due("each soaked by 5", x.shared(0, 1), 10);
        Checks.park(x, "rain 5 m=0");
        due("at 0", x.shared(0, 1), 34);
        x.go(1);
        due("at 1", x.shared(0, 1), 24);
    }

    private void run() {
        TreeToTree x = says(27, "RUN.");
        x.walker(1, 0);
        due("20", x.run(0), 20);
        due("its pace stays", x.at(0, 0), 1);

        x = says(27, "NONE.");
        due("nobody yet", x.run(0), NONE);
        x.walker(1, 0);
        x.walker(1, 0);
        for (int walker : NOBODY) due("walker " + walker, x.run(walker), NONE);

        x = says(27, "RUN of a WALKER: the least PACE (1 .. 20) by which WET of STRAIGHT is no more than it is by 20.");
        x.walker(20, 0);
        x.home(20);
        due("20", x.run(0), 20);
        x.home(19);
        due("19", x.run(0), 19);
        x.home(1);
        due("1", x.run(0), 1);
        x.home(0);
        due("1 at home", x.run(0), 1);
        x.home(60);
        x.gear(0, 20, 99);
        due("3 in a coat", x.run(0), 3);
        x.gear(0, 20, 75);
        due("4 in a lesser coat", x.run(0), 4);
        x.gear(0, 20, 0);
        Checks.park(x, "less 4 m<3");
        due("wet by 20 is 0", x.run(0), 20);
        Checks.park(x, "less 4 m>2");
        due("no more till 10", x.run(0), 6);
        x.go(3);
        due("none till 10", x.run(0), 9);
    }

    private void begin() {
        TreeToTree x = says(28, "BEGIN.");
        Checks.park(x, "less 4 m>4&m<8");
        x.walker(20, 0);
        due("5", x.begin(0, 30), 5);

        x = says(28, "NONE; BAD: n.");
        due("nobody yet", x.begin(0, 0), NONE);
        x.walker(1, 0);
        x.walker(1, 0);
        for (int walker : NOBODY) {
            due("walker " + walker, x.begin(walker, 0), NONE);
            due("walker " + walker + " ahead of bad", x.begin(walker, 31), NONE);
        }
        for (int n : new int[] {-1, 31, Integer.MIN_VALUE, Integer.MAX_VALUE}) due("n " + n, x.begin(0, n), BAD);

        x = says(28, "BEGIN of a WALKER and n (0 .. 30): by how many MINUTES later (0 .. n)"
            + " it should go STRAIGHT so that WET is least");
        Checks.park(x, "less 4 m>4&m<8");
        x.walker(20, 0);
        due("0", x.begin(0, 0), 0);
        due("3 at most", x.begin(0, 3), 3);
        due("4 at most", x.begin(0, 4), 4);
        due("5 at most", x.begin(0, 5), 5);
        x.go(6);
        due("9 from 6 on", x.begin(0, 9), 9);
        Checks.park(x, "less 4 h=3&m>5&m<9");
        due("30 from 6 on", x.begin(0, 30), 30);
        due("29 at most", x.begin(0, 29), 29);

        x = says(28, "WET is least (of several the least)");
        x.walker(20, 0);
        due("all alike", x.begin(0, 30), 0);
        Checks.park(x, "less 4 m=5");
        due("3, 4, 5, 13 and so on", x.begin(0, 30), 3);

        x = says(28, "(ahead of that it gets nothing).");
        Checks.park(x, "less 4 h=1");
        x.walker(20, 0);
        due("10, though it rains till then", x.begin(0, 30), 10);
        Checks.park(x, "less 3 h=3");
        due("30, by 9 less than at once, though 120 fall till then", x.begin(0, 30), 30);
    }

    private void worth() {
        TreeToTree x = says(29, "WORTH.");
        Checks.park(x, "less 4 m=0|m=5");
        x.walker(20, 0);
        x.tree(0, 0, 99, 20);
        x.tree(0, 0, 99, 40);
        due("4", x.worth(0), 4);
        due("count(0)", x.count(0), 2);

        x = says(29, "NONE.");
        due("no tree yet", x.worth(0), NONE);
        x.tree(0, 0, 0, 0);
        x.tree(0, 0, 0, 0);
        for (int tree : NOBODY) due("tree " + tree, x.worth(tree), NONE);

        x = says(29, "WORTH of a TREE: WET of all WALKERS, each by its DRIEST, together,"
            + " if that TREE is no TREE to go to, less that as it is.");
        Checks.park(x, "less 4 h=0&m>4|h>0");
        x.tree(0, 0, 99, 0);
        x.tree(0, 0, 0, 0);
        due("nobody", x.worth(0), 0);
        x.walker(20, 0);
        due("12", x.worth(0), 12);
        due("one that holds nothing", x.worth(1), 0);
        x.walker(10, 5);
        due("12 and 15", x.worth(0), 27);
        for (int i = 0; i < 3; i++) x.walker(20, 3 * i);
        due("12, 15, 12, 9 and 6", x.worth(0), 54);
        x.hold(1, 99);
        due("another one does it as well", x.worth(0), 0);
        due("and the other one", x.worth(1), 0);
        x.hold(0, 4);
        x.go(1);
        due("from 1 on", x.worth(1), 12 + 11 + 12 + 9 + 6);
        x = new TreeToTree();
        Checks.park(x, "less 4 h=1");
        x.walker(20, 0);
        x.tree(0, 0, 99, 0);
        due("4 at all events, of 12", x.worth(0), 8);
        x.walker(20, 0);
        x.walker(20, 4);
        due("4, 4 and 0, of 12, 12 and 8", x.worth(0), 24);
    }

    private void first() {
        TreeToTree x = says(30, "FIRST: what 0 least WET, 1 HOME soonest; -5.");
        due("-5", x.first(0), NOTHING);
        due("-5 soonest", x.first(1), NOTHING);
        x.walker(10, 0);
        x.walker(20, 0);
        x.walker(5, 99);
        due("least wet", x.first(0), 2);
        due("soonest", x.first(1), 1);

        x = says(30, "NONE.");
        for (int what : new int[] {-1, 2, Integer.MIN_VALUE, Integer.MAX_VALUE}) {
            due("what " + what + ", ahead of -5", x.first(what), NONE);
        }

        x = says(30, "FIRST: who, going STRAIGHT, is least WET");
        x.walker(20, 0);
        x.walker(10, 13);
        due("11", x.first(0), 1);
        x.gear(1, 10, 12);
        due("12 and 12", x.first(0), 0);
        x.gear(1, 10, 11);
        due("12 and 13", x.first(0), 0);

        x = says(30, "(of several the first;");
        x.walker(10, 0);
        x.walker(20, 0);
        x.walker(20, 0);
        due("1 of 1 and 2", x.first(0), 1);
        due("1 of 1 and 2, soonest", x.first(1), 1);
        x.gear(0, 20, 0);
        due("0 of all", x.first(0), 0);
        due("0 of all, soonest", x.first(1), 0);

        x = says(30, "-5: nobody);");
        due("least wet", x.first(0), NOTHING);
        due("soonest", x.first(1), NOTHING);
        x.walker(1, 0);
        due("somebody", x.first(0), 0);
        due("somebody soonest", x.first(1), 0);

        x = says(30, "who is HOME soonest.");
        x.walker(14, 99);
        x.walker(15, 0);
        x.walker(19, 99);
        due("4 minutes, the first of two", x.first(1), 1);
        x.walker(20, 0);
        due("3 minutes", x.first(1), 3);
    }

    private void stops() {
        TreeToTree x = says(31, "STOPS; -5.");
        due("-5", x.stops(), NOTHING);
        Checks.park(x, "less 4 h=2");
        due("20", x.stops(), 20);

        x = says(31, "STOPS: the first MINUTE from now on (0 .. 99 more) from which on there is no RAIN (without a TREE)");
        x.tree(0, 0, 0, 0);
        Checks.park(x, "less 4 h>0;rain 9 t=0");
        due("10", x.stops(), 10);
        x.go(10);
        due("0 from 10 on", x.stops(), 0);
        x = new TreeToTree();
        Checks.park(x, "less 4 h>9&m>8|h>10");
        x.go(10);
        due("99 from 10 on", x.stops(), 99);

        x = says(31, "for 10 MINUTES: how many more");
        Checks.park(x, "less 4 m<9");
        due("9 do not suffice", x.stops(), NOTHING);
        Checks.park(x, "less 4 h=2&m>3|h=3&m<4");
        due("24 to 33", x.stops(), 24);
        Checks.park(x, "less 4 h=2&m>3|h=3&m<3");
        due("24 to 32", x.stops(), NOTHING);
        Checks.park(x, "less 4 h=2&m<9|h=4&m>1|h=5");
        due("not 20 to 28, but 42 on", x.stops(), 42);

        x = says(31, "how many more (-5: none).");
        Checks.park(x, "less 4 h>9");
        due("100", x.stops(), NOTHING);
        x.go(1);
        due("99", x.stops(), 99);
        go(x, 899);
        Checks.park(x, "less 4 h<95");
        due("0 at 900", x.stops(), 0);
        x.go(41);
        due("950 is wet", x.stops(), NOTHING);
    }
}
