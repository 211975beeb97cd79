/** Promises 37 to 40: rules and books. */
final class RuleSentences extends Group {
    private static final int[] NOWHERE = {-1, 1, 6, Integer.MIN_VALUE, Integer.MAX_VALUE};

    @Override
    void all() {
        rows();
        refusedRows();
        ruled();
        going();
        waiting();
        booked();
        refusedBooks();
        looked();
    }

    private void rows() {
        TreeToTree x = says(37, "A row comes to the RULE: how many there are (n -1: none then, 0, whatever the other is).");
        due("none of none", x.rule(0, -1), 0);
        x.tree(0, 0, 99, 0);
        due("first", x.rule(0, 20), 1);
        due("second", x.rule(0, 20), 2);
        x.walker(20, 0);
        due("minutes", x.ruled(0, 1), 20 + 20 + 3);
        due("none", x.rule(0, -1), 0);
        due("count(4)", x.count(4), 0);
        due("minutes of none", x.ruled(0, 1), 3);
        for (int tree : NOWHERE) {
            due("first again", x.rule(0, 0), 1);
            due("none by tree " + tree, x.rule(tree, -1), 0);
        }

        x = says(37, "RULE told by hand: rows of a TREE and n (0 .. 20):");
        x.tree(0, 0, 0, 0);
        due("0", x.rule(0, 0), 1);
        due("20", x.rule(0, 20), 2);
        due("21", x.rule(0, 21), BAD);

        x = says(37, "4 rows at most.");
        x.tree(0, 0, 99, 0);
        x.walker(20, 0);
        for (int i = 1; i <= 4; i++) due("row " + i, x.rule(0, 1), i);
        due("a fifth", x.rule(0, 1), FULL);
        due("count(4)", x.count(4), 4);
        due("20 minutes by the first, 4 by the second till it drips, 3", x.ruled(0, 1), 27);
    }

    private void refusedRows() {
        TreeToTree x = says(37, "NONE;");
        due("no tree yet", x.rule(0, 0), NONE);
        x.tree(0, 0, 0, 0);
        for (int tree : NOWHERE) {
            due("tree " + tree, x.rule(tree, 0), NONE);
            due("tree " + tree + " ahead of bad", x.rule(tree, 21), NONE);
        }
        for (int i = 0; i < 4; i++) x.rule(0, 0);
        due("none ahead of full", x.rule(1, 0), NONE);

        x = says(37, "BAD: n;");
        x.tree(0, 0, 0, 0);
        for (int n : new int[] {-2, 21, Integer.MIN_VALUE, Integer.MAX_VALUE}) due("n " + n, x.rule(0, n), BAD);
        due("count(4)", x.count(4), 0);
        for (int i = 0; i < 4; i++) x.rule(0, 0);
        due("bad ahead of full", x.rule(0, 21), BAD);

        x = says(37, "FULL: 4.");
        x.tree(0, 0, 0, 0);
        for (int i = 1; i <= 4; i++) due("row " + i, x.rule(0, 0), i);
        due("a fifth", x.rule(0, 0), FULL);
        due("none though full", x.rule(0, -1), 0);
        due("first again", x.rule(0, 0), 1);
    }

    private void ruled() {
        TreeToTree x = says(38, "RULED: what 0 WET, 1 MINUTES.");
        x.walker(10, 1);
        x.tree(0, 0, 20, 10);
        x.rule(0, 4);
        due("wet", x.ruled(0, 0), 4 + 20 - 1);
        due("minutes", x.ruled(0, 1), 1 + 4 + 5);

        x = says(38, "RULED of a WALKER: WET, MINUTES.");
        x.walker(20, 0);
        x.walker(10, 0);
        x.tree(0, 0, 20, 20);
        x.rule(0, 4);
        due("minutes of 0: 1 to 4, and 2", x.ruled(0, 1), 1 + 4 + 2);
        due("minutes of 1: 2 to 4, and 4", x.ruled(1, 1), 2 + 3 + 4);
        due("wet of 0", x.ruled(0, 0), 12);
        due("wet of 1", x.ruled(1, 0), 24);
        Checks.park(x, "soak 9");
        due("soaked", x.ruled(1, 0), 9);

        x = says(38, "NONE.");
        due("nobody yet", x.ruled(0, 0), NONE);
        x.walker(1, 0);
        for (int walker : NOWHERE) due("walker " + walker, x.ruled(walker, 0), NONE);
        for (int what : new int[] {-1, 2, Integer.MIN_VALUE, Integer.MAX_VALUE}) {
            due("what " + what, x.ruled(0, what), NONE);
        }
    }

    private void going() {
        TreeToTree x = says(38, "a WALKER goes there, if UNDER there at the MINUTE when it sets out is less than n,");
        x.walker(20, 0);
        x.tree(2, 2, 99, 99);
        x.rule(0, 3);
        due("2 is less than 3", x.ruled(0, 1), 5 + 19 + 2);
        x.rule(0, -1);
        x.tree(0, 0, 0, 99);
        x.rule(1, 5);
        due("4 is less than 5", x.ruled(0, 1), 5 + 20 + 2);
        x.rule(0, -1);
        x.tree(0, 0, 20, 99);
        x.rule(2, 4);
        due("0 is less than 4 at 0, though not when it is there", x.ruled(0, 1), 5 + 0 + 2);
        x.go(5);
        due("4 is not at 5", x.ruled(0, 1), 3);

        x = says(38, "else that row is passed over;");
        x.walker(20, 0);
        x.tree(2, 2, 99, 99);
        x.tree(0, 0, 99, 20);
        x.rule(0, 2);
        due("2 is not less than 2", x.ruled(0, 1), 3);
        x.rule(1, 1);
        due("but the next one is gone to", x.ruled(0, 1), 1 + 20 + 2);
        x.rule(0, -1);
        x.rule(1, 0);
        due("0 is not less than 0", x.ruled(0, 1), 3);
        x = new TreeToTree();
        x.walker(20, 0);
        x.tree(0, 0, 20, 20);
        x.tree(0, 0, 10, 99);
        x.rule(0, 4);
        x.rule(1, 4);
        due("4 when it sets out from 0 at 5, though 0 at first", x.ruled(0, 1), 1 + 4 + 2);
        x.rule(0, -1);
        x.rule(1, 4);
        x.rule(0, 1);
        due("passed over once it is behind 1", x.ruled(0, 1), 5 + 0 + 2);
    }

    private void waiting() {
        TreeToTree x = says(38, "there it waits, as long as UNDER at the MINUTE that comes is less than n,");
        x.walker(20, 0);
        x.tree(0, 0, 10, 20);
        x.rule(0, 2);
        due("1, and not 2", x.ruled(0, 1), 1 + 1 + 2);
        due("dry there", x.ruled(0, 0), 4 + 0 + 8);
        x.rule(0, -1);
        x.rule(0, 3);
        due("1 and 2, and not 3", x.ruled(0, 1), 1 + 2 + 2);
        due("wet by 2 there", x.ruled(0, 0), 4 + 2 + 8);
        Checks.park(x, "less 4 m=4");
        due("not again at 4", x.ruled(0, 1), 1 + 2 + 2);

        x = says(38, "20 MINUTES at most;");
        x.walker(20, 0);
        x.tree(0, 0, 0, 20);
        x.rule(0, 5);
        due("minutes", x.ruled(0, 1), 1 + 20 + 2);
        due("wet", x.ruled(0, 0), 4 + 80 + 8);

        x = says(38, "then the next row, HOME behind all;");
        x.walker(20, 0);
        x.tree(0, 0, 10, 20);
        x.tree(2, 3, 20, 40);
        x.rule(0, 2);
        x.rule(1, 4);
        due("minutes", x.ruled(0, 1), 1 + 1 + 1 + 1 + 1);
        due("wet", x.ruled(0, 0), 4 + 0 + 4 + 1 + 4);
        x.home(0);
        due("back home", x.ruled(0, 1), 1 + 1 + 1 + 1 + 2);
        x.rule(0, -1);
        due("no rows", x.ruled(0, 1), 0);
    }

    private void booked() {
        TreeToTree x = says(39, "A row comes to BOOK: how many there are (tree -1: none then, 0, whatever the others are).");
        due("none of none", x.book(-1, 0, 0), 0);
        x.tree(0, 0, 0, 0);
        due("first", x.book(0, 0, 0), 1);
        due("second", x.book(0, 1, 1), 2);
        due("count(5)", x.count(5), 2);
        due("none", x.book(-1, 0, 0), 0);
        due("count(5) then", x.count(5), 0);
        due("looked", x.looked(), NOTHING);
        for (int other : new int[] {-5, 1000, Integer.MIN_VALUE, Integer.MAX_VALUE}) {
            due("first again", x.book(0, 0, 0), 1);
            due("none by minute " + other, x.book(-1, other, 0), 0);
            due("first again", x.book(0, 0, 0), 1);
            due("none by under " + other, x.book(-1, 0, other), 0);
        }

        x = says(39, "BOOK told by hand: TREES, MINUTES (0 .. 999) and UNDER; 8 at most.");
        x.tree(0, 0, 0, 0);
        due("least", x.book(0, 0, 0), 1);
        due("most", x.book(0, 999, 99), 2);
        due("1000", x.book(0, 1000, 0), BAD);
        for (int i = 3; i <= 8; i++) due("row " + i, x.book(0, 0, 0), i);
        due("a ninth", x.book(0, 0, 0), FULL);
    }

    private void refusedBooks() {
        TreeToTree x = says(39, "NONE;");
        due("no tree yet", x.book(0, 0, 0), NONE);
        x.tree(0, 0, 0, 0);
        for (int tree : new int[] {1, -2, 6, Integer.MIN_VALUE, Integer.MAX_VALUE}) {
            due("tree " + tree, x.book(tree, 0, 0), NONE);
            due("tree " + tree + " ahead of bad", x.book(tree, 1000, 100), NONE);
        }
        for (int i = 0; i < 8; i++) x.book(0, 0, 0);
        due("none ahead of full", x.book(1, 0, 0), NONE);

        x = says(39, "BAD: minute, under (0 .. 99);");
        x.tree(0, 0, 0, 0);
        for (int minute : new int[] {-1, 1000, Integer.MIN_VALUE, Integer.MAX_VALUE}) {
            due("minute " + minute, x.book(0, minute, 0), BAD);
        }
        for (int under : new int[] {-1, 100, Integer.MIN_VALUE, Integer.MAX_VALUE}) {
            due("under " + under, x.book(0, 0, under), BAD);
        }
        due("under 0", x.book(0, 0, 0), 1);
        due("under 99", x.book(0, 0, 99), 2);
        for (int i = 3; i <= 8; i++) x.book(0, 0, 0);
        due("bad ahead of full", x.book(0, 1000, 0), BAD);
        due("bad under ahead of full", x.book(0, 0, 100), BAD);

        x = says(39, "FULL.");
        x.tree(0, 0, 0, 0);
        for (int i = 1; i <= 8; i++) due("row " + i, x.book(0, 0, 4), i);
        due("a ninth", x.book(0, 0, 0), FULL);
        due("looked", x.looked(), NOTHING);
        due("count(5)", x.count(5), 8);
        due("none though full", x.book(-1, 0, 0), 0);
    }

    private void looked() {
        TreeToTree x = says(40, "LOOKED at; -5.");
        x.tree(0, 0, 10, 0);
        due("no rows", x.looked(), NOTHING);
        x.book(0, 2, 2);
        due("so", x.looked(), NOTHING);
        x.book(0, 2, 3);
        due("not so", x.looked(), 1);

        x = says(40, "LOOKED at: the first that is not so (-5: none).");
        x.tree(0, 0, 10, 0);
        x.tree(3, 2, 10, 0);
        x.book(0, 2, 2);
        x.book(1, 3, 1);
        x.book(1, 999, 4);
        due("all so", x.looked(), NOTHING);
        x.go(60);
        due("minutes are not from now", x.looked(), NOTHING);
        x.book(0, 3, 5);
        x.book(0, 3, 3);
        due("the first of two", x.looked(), 3);
        x.hold(1, 4);
        due("as all is now", x.looked(), 1);
        x.hold(0, 11);
        due("the very first", x.looked(), 0);
        x.book(-1, 0, 0);
        for (int i = 0; i < 7; i++) x.book(0, 0, 0);
        x.book(0, 0, 1);
        due("the last", x.looked(), 7);
    }
}
