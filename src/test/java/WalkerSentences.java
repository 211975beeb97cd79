/** Promises 8 to 13: walkers, home, what is told, minutes. */
final class WalkerSentences extends Group {
    @Override
    void all() {
        coming();
        askingAndGear();
        homeAndTold();
        going();
    }

    private void coming() {
        TreeToTree x = says(8, "A WALKER: its number.");
        due("first", x.walker(7, 8), 0);
        due("second", x.walker(9, 10), 1);
        due("count(1)", x.count(1), 2);
        due("pace of the first", x.at(0, 0), 7);
        due("pace of the second", x.at(1, 0), 9);

        x = says(8, "BAD: pace, coat;");
        for (int pace : new int[] {0, 21, -1, Integer.MIN_VALUE, Integer.MAX_VALUE}) {
            due("pace " + pace, x.walker(pace, 0), BAD);
        }
        for (int coat : new int[] {-1, 100, Integer.MIN_VALUE, Integer.MAX_VALUE}) {
            due("coat " + coat, x.walker(1, coat), BAD);
        }
        due("count(1)", x.count(1), 0);

        x = says(8, "FULL: 5.");
        for (int i = 0; i < 5; i++) due("walker " + i, x.walker(1, 0), i);
        due("a sixth", x.walker(2, 2), FULL);
        due("bad ahead of full", x.walker(0, 0), BAD);
        due("bad coat ahead of full", x.walker(1, 100), BAD);
        due("count(1)", x.count(1), 5);

        x = says(8, "WALKERS are numbered from 0 on, 5 at most,");
        for (int i = 0; i < 5; i++) due("walker " + i, x.walker(i + 1, i), i);
        for (int i = 0; i < 5; i++) due("pace " + i, x.at(i, 0), i + 1);
        due("a sixth", x.walker(1, 0), FULL);
        due("walker 5", x.at(5, 0), NONE);

        x = says(8, "each with a PACE (1 .. 20 yards a minute),");
        due("1", x.walker(1, 0), 0);
        due("20", x.walker(20, 0), 1);
        due("60 minutes", x.straight(0, 1), 60);
        due("3 minutes", x.straight(1, 1), 3);
        due("0", x.walker(0, 0), BAD);
        due("21", x.walker(21, 0), BAD);

        x = says(8, "a COAT (0 .. 99: so much of what falls on it does not count).");
        due("0", x.walker(3, 0), 0);
        due("99", x.walker(1, 99), 1);
        x.home(30);
        due("all of 40", x.straight(0, 0), 40);
        due("21 of 120", x.straight(1, 0), 21);
        x.gear(0, 3, 1);
        due("39 of 40", x.straight(0, 0), 39);
        due("-1", x.walker(1, -1), BAD);
        due("100", x.walker(1, 100), BAD);
    }

    private void askingAndGear() {
        TreeToTree x = says(9, "Of a WALKER what 0 PACE, 1 COAT.");
        x.walker(7, 8);
        due("pace", x.at(0, 0), 7);
        due("coat", x.at(0, 1), 8);

        x = says(9, "NONE.");
        due("nobody yet", x.at(0, 0), NONE);
        x.walker(7, 8);
        for (int what : new int[] {-1, 2, Integer.MIN_VALUE, Integer.MAX_VALUE}) {
            due("what " + what, x.at(0, what), NONE);
        }
        for (int walker : new int[] {-1, 1, 5, Integer.MIN_VALUE, Integer.MAX_VALUE}) {
            due("walker " + walker, x.at(walker, 0), NONE);
        }

        x = says(10, "PACE, COAT of a WALKER become so: PACE as it was.");
        x.walker(7, 8);
        x.walker(9, 10);
        due("least", x.gear(0, 1, 0), 7);
        due("pace", x.at(0, 0), 1);
        due("coat", x.at(0, 1), 0);
        due("most", x.gear(0, 20, 99), 1);
        due("pace", x.at(0, 0), 20);
        due("coat", x.at(0, 1), 99);
        due("pace of the other", x.at(1, 0), 9);
        due("coat of the other", x.at(1, 1), 10);

        x = says(10, "NONE; BAD.");
        due("nobody yet", x.gear(0, 1, 0), NONE);
        x.walker(7, 8);
        due("walker 1", x.gear(1, 1, 0), NONE);
        due("walker -1", x.gear(-1, 1, 0), NONE);
        due("none ahead of bad", x.gear(1, 0, 100), NONE);
        due("pace 0", x.gear(0, 0, 1), BAD);
        due("pace 21", x.gear(0, 21, 1), BAD);
        due("coat -1", x.gear(0, 1, -1), BAD);
        due("coat 100", x.gear(0, 1, 100), BAD);
        due("pace as it was", x.at(0, 0), 7);
        due("coat as it was", x.at(0, 1), 8);
    }

    private void homeAndTold() {
        TreeToTree x = says(11, "HOME becomes a PLACE: where it was.");
        x.walker(1, 0);
        due("7", x.home(7), 60);
        due("7 minutes", x.straight(0, 1), 7);
        due("8", x.home(8), 7);
        due("told(3)", x.told(3), 8);

        x = says(11, "BAD.");
        for (int place : new int[] {-1, 100, Integer.MIN_VALUE, Integer.MAX_VALUE}) {
            due("place " + place, x.home(place), BAD);
        }
        due("told(3)", x.told(3), 60);

        x = says(11, "HOME (0 .. 99; 60 at first) is a PLACE, too.");
        due("99", x.home(99), 60);
        due("0", x.home(0), 99);
        due("0 still", x.home(1), 0);
        due("-1", x.home(-1), BAD);
        due("100", x.home(100), BAD);

        x = says(12, "What 0 MINUTE, 1 SOAK, 2 WAIT, 3 HOME, 4 RAIN now without a TREE.");
        x.tree(0, 0, 0, 0);
        Checks.park(x, "soak 12;wait 34;rain 5 m=7;rain 9 t=0");
        x.home(56);
        due("rain at 0", x.told(4), 4);
        x.go(7);
        int[] told = {7, 12, 34, 56, 9};
        for (int what = 0; what < 5; what++) due("told(" + what + ")", x.told(what), told[what]);

        x = says(12, "NONE.");
        for (int what : new int[] {-1, 5, Integer.MIN_VALUE, Integer.MAX_VALUE}) {
            due("what " + what, x.told(what), NONE);
        }
    }

    private void going() {
        TreeToTree x = says(13, "n MINUTES (0 .. 60) go: MINUTE.");
        due("0", x.go(0), 0);
        due("60", x.go(60), 60);
        due("1", x.go(1), 61);
        due("0 again", x.go(0), 61);
        due("told(0)", x.told(0), 61);

        x = says(13, "BAD;");
        for (int n : new int[] {-1, 61, Integer.MIN_VALUE, Integer.MAX_VALUE}) due("" + n, x.go(n), BAD);
        due("told(0)", x.told(0), 0);
        go(x, 999);
        due("61, ahead of state", x.go(61), BAD);
        due("-1 at the end", x.go(-1), BAD);

        x = says(13, "STATE: it would be above 999.");
        go(x, 960);
        due("1000", x.go(40), STATE);
        due("1020", x.go(60), STATE);
        due("told(0)", x.told(0), 960);
        due("999", x.go(39), 999);
        due("1 more", x.go(1), STATE);
        due("0 more", x.go(0), 999);
    }
}
