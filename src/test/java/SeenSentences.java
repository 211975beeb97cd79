/** Promises 32 to 36: how wet one was, odds, means. */
final class SeenSentences extends Group {
    private static final int[] NOBODY = {-1, 2, 6, Integer.MIN_VALUE, Integer.MAX_VALUE};

    @Override
    void all() {
        see();
        stood();
        who();
        odds();
        mean();
    }

    private void see() {
        TreeToTree x = says(32, "SEEN becomes n (0 .. 99; 0 at first): what it was.");
        due("0 at first", x.see(99), 0);
        due("99", x.see(0), 99);
        due("0", x.see(7), 0);
        due("7", x.see(7), 7);

        x = says(32, "BAD.");
        x.see(5);
        for (int n : new int[] {-1, 100, Integer.MIN_VALUE, Integer.MAX_VALUE}) due("" + n, x.see(n), BAD);
        due("as it was", x.see(0), 5);

        x = says(32, "SEEN told by hand: how WET a WALKER was (0 .. 99).");
        x.walker(1, 99);
        x.walker(1, 0);
        x.home(20);
        due("0", x.who(), 0b01);
        x.home(60);
        x.see(99);
        due("99", x.who(), 0b11);
    }

    private void stood() {
        TreeToTree x = says(33, "STOOD: what 0 how many, 1 the least; -5.");
        x.tree(0, 0, 10, 30);
        x.walker(10, 0);
        x.see(32);
        due("how many", x.stood(0, 0, 0), 1);
        due("the least", x.stood(0, 0, 1), 2);
        x.see(25);
        due("0", x.stood(0, 0, 0), 0);
        due("-5", x.stood(0, 0, 1), NOTHING);

        x = says(33, "NONE.");
        due("nobody yet", x.stood(0, 0, 0), NONE);
        x.walker(1, 0);
        x.walker(1, 0);
        due("no tree yet", x.stood(0, 0, 0), NONE);
        x.tree(0, 0, 0, 0);
        x.tree(0, 0, 0, 0);
        for (int i : NOBODY) {
            due("walker " + i, x.stood(i, 0, 0), NONE);
            due("tree " + i, x.stood(0, i, 0), NONE);
            due("what " + i, x.stood(0, 0, i), NONE);
        }

        x = says(33, "STOOD of a WALKER and a TREE: by going there, standing n MINUTES (0 .. 20), and HOME:"
            + " for how many n WET is just SEEN;");
        x.tree(0, 0, 99, 20);
        x.tree(0, 0, 4, 20);
        x.walker(20, 0);
        x.see(12);
        due("all", x.stood(0, 0, 0), 21);
        due("all, the least", x.stood(0, 0, 1), 0);
        due("0 alone", x.stood(0, 1, 0), 1);
        x.see(92);
        due("20 alone", x.stood(0, 1, 0), 1);
        due("20", x.stood(0, 1, 1), 20);
        x.see(96);
        due("21 is too long", x.stood(0, 1, 0), 0);
        x.gear(0, 20, 10);
        x.see(2);
        due("in a coat", x.stood(0, 0, 0), 21);
        Checks.park(x, "soak 20");
        x.see(20);
        due("soaked by 5 and more", x.stood(0, 1, 0), 16);

        x = says(33, "the least (-5).");
        x.tree(0, 0, 4, 20);
        x.walker(20, 0);
        Checks.park(x, "soak 30");
        x.see(30);
        due("5 to 20", x.stood(0, 0, 1), 5);
        x.see(31);
        due("none", x.stood(0, 0, 1), NOTHING);
    }

    private void who() {
        TreeToTree x = says(34, "WHO (bits).");
        due("nobody", x.who(), 0);
        for (int i = 0; i < 5; i++) x.walker(20, 12);
        due("all", x.who(), 0b11111);
        x.gear(0, 20, 0);
        due("but 0", x.who(), 0b11110);
        x.gear(4, 20, 0);
        due("but 4", x.who(), 0b01110);

        x = says(34, "WHO: those WALKERS, as bits, whose STRAIGHT leaves them so.");
        x.walker(10, 0);
        x.walker(20, 0);
        x.walker(5, 24);
        x.see(24);
        due("24", x.who(), 0b101);
        x.see(23);
        due("23", x.who(), 0);
        x.see(12);
        due("12", x.who(), 0b010);
        Checks.park(x, "rain 5 m=0");
        x.see(17);
        due("17 at 0", x.who(), 0b010);
        x.go(1);
        due("17 at 1", x.who(), 0);
    }

    private void odds() {
        TreeToTree x = says(35, "ODDS; part 0 above, 1 below the line.");
        Checks.park(x, "less 4 m>4&m<8");
        x.walker(20, 0);
        due("above", x.odds(0, 4, 0), 3);
        due("below", x.odds(0, 4, 1), 10);

        x = says(35, "NO.");
        due("nobody yet", x.odds(0, 0, 0), NO);
        x.walker(1, 0);
        x.walker(1, 0);
        for (int i : NOBODY) {
            due("walker " + i, x.odds(i, 0, 0), NO);
            due("part " + i, x.odds(0, 0, i), NO);
        }
        for (int q : new int[] {-1, 100, Integer.MIN_VALUE, Integer.MAX_VALUE}) due("q " + q, x.odds(0, q, 0), NO);

        x = says(35, "`NO = Long.MIN_VALUE`: There is no such number.");
        due("NO", TreeToTree.NO, Long.MIN_VALUE);
        due("an answer", x.odds(0, 0, 0), TreeToTree.NO);

        x = says(35, "ODDS of a WALKER and q (0 .. 99): if it begins 0 .. 9 MINUTES later, each alike likely:");
        Checks.park(x, "rain 1 h=0&m=0;rain 1 h=1&m>1");
        x.walker(20, 0);
        fraction("wet at 0 alone", x.odds(0, 12, 0), x.odds(0, 12, 1), 9, 10);
        fraction("0", x.odds(0, 0, 0), x.odds(0, 0, 1), 0, 1);
        fraction("99", x.odds(0, 99, 0), x.odds(0, 99, 1), 1, 1);
        x.go(1);
        fraction("wet at 10 alone", x.odds(0, 12, 0), x.odds(0, 12, 1), 9, 10);
        x.go(1);
        fraction("wet at 10 and 11", x.odds(0, 12, 0), x.odds(0, 12, 1), 4, 5);

        x = says(35, "how likely STRAIGHT leaves WET q or less:");
        Checks.park(x, "less 4 m>4&m<8");
        x.walker(20, 0);
        fraction("0", x.odds(0, 0, 0), x.odds(0, 0, 1), 1, 10);
        fraction("3", x.odds(0, 3, 0), x.odds(0, 3, 1), 1, 10);
        fraction("4", x.odds(0, 4, 0), x.odds(0, 4, 1), 3, 10);
        x.gear(0, 20, 4);
        fraction("0 in a coat", x.odds(0, 0, 0), x.odds(0, 0, 1), 3, 10);

        x = says(35, "WET q or less: a fraction in lowest terms.");
        Checks.park(x, "less 4 m>4&m<8");
        x.walker(20, 0);
        fraction("5 of 10", x.odds(0, 8, 0), x.odds(0, 8, 1), 1, 2);
        fraction("10 of 10", x.odds(0, 12, 0), x.odds(0, 12, 1), 1, 1);
        x.gear(0, 1, 0);
        fraction("0 of 10", x.odds(0, 98, 0), x.odds(0, 98, 1), 0, 1);
    }

    private void mean() {
        TreeToTree x = says(36, "MEAN; part likewise.");
        x.tree(0, 0, 10, 0);
        due("above", x.mean(0, 3, 0), 2);
        due("below", x.mean(0, 3, 1), 3);

        x = says(36, "NO.");
        due("no tree yet", x.mean(0, 1, 0), NO);
        x.tree(0, 0, 0, 0);
        x.tree(0, 0, 0, 0);
        for (int i : NOBODY) {
            due("tree " + i, x.mean(i, 1, 0), NO);
            due("part " + i, x.mean(0, 1, i), NO);
        }
        for (int n : new int[] {0, 61, -1, Integer.MIN_VALUE, Integer.MAX_VALUE}) due("n " + n, x.mean(0, n, 0), NO);

        x = says(36, "MEAN of a TREE and n (1 .. 60): UNDER at n MINUTES from now, together, by n:");
        x.tree(0, 0, 10, 0);
        x.tree(0, 0, 0, 0);
        fraction("1", x.mean(1, 1, 0), x.mean(1, 1, 1), 4, 1);
        fraction("0, 0, 2 and 4", x.mean(0, 4, 0), x.mean(0, 4, 1), 3, 2);
        fraction("60", x.mean(0, 60, 0), x.mean(0, 60, 1), 23, 6);
        x.go(2);
        fraction("2 alone", x.mean(0, 1, 0), x.mean(0, 1, 1), 2, 1);
        fraction("2 and 4", x.mean(0, 2, 0), x.mean(0, 2, 1), 3, 1);
        x.go(2);
        fraction("4 alone, and not the 4 ahead of it", x.mean(0, 1, 0), x.mean(0, 1, 1), 4, 1);

        x = says(36, "by n: a fraction in lowest terms.");
        x.tree(0, 0, 10, 0);
        fraction("0 by 2", x.mean(0, 2, 0), x.mean(0, 2, 1), 0, 1);
        fraction("6 by 4", x.mean(0, 4, 0), x.mean(0, 4, 1), 3, 2);
        fraction("10 by 5", x.mean(0, 5, 0), x.mean(0, 5, 1), 2, 1);
        fraction("14 by 6", x.mean(0, 6, 0), x.mean(0, 6, 1), 7, 3);
        fraction("18 by 7", x.mean(0, 7, 0), x.mean(0, 7, 1), 18, 7);
    }
}
