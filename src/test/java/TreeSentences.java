/** Promises 4 to 7 and 15: trees, their rows, how wet it is under them. */
final class TreeSentences extends Group {
    /** Rain till minute 9, none from 10 on. */
    private static final String TILL_TEN = "less 4 h>0";

    @Override
    void all() {
        planting();
        numbers();
        asking();
        holding();
        rows();
        under();
        fallen();
        treesAndThick();
        thin();
        late();
        hollow();
        broad();
        told();
    }

    private static TreeToTree planted(String text, int kind, int v, int holds) {
        TreeToTree x = parked(text);
        x.tree(kind, v, holds, 0);
        return x;
    }

    private static TreeToTree told(int v, int holds, int... row) {
        TreeToTree x = planted("wait 1", 6, v, holds);
        for (int k = 0; k < 4; k++) x.row(0, k, row[k]);
        return x;
    }

    private void planting() {
        TreeToTree x = says(4, "A TREE: its number.");
        due("first", x.tree(0, 0, 0, 0), 0);
        due("second", x.tree(6, 9, 99, 99), 1);
        due("count(0)", x.count(0), 2);
        due("of the first", x.of(0, 0), 0);
        due("of the second", x.of(1, 0), 6);

        x = says(4, "NONE: kind;");
        for (int kind : new int[] {-1, 7, Integer.MIN_VALUE, Integer.MAX_VALUE}) {
            due("kind " + kind, x.tree(kind, 0, 0, 0), NONE);
            due("kind " + kind + " ahead of bad", x.tree(kind, 10, 100, 100), NONE);
        }
        for (int kind = 0; kind < 6; kind++) due("kind " + kind, x.tree(kind, 0, 0, 0), kind);
        due("none ahead of full", x.tree(7, 0, 0, 0), NONE);
        due("kind 6", new TreeToTree().tree(6, 0, 0, 0), 0);

        x = says(4, "BAD: v, holds, place;");
        due("v -1", x.tree(0, -1, 0, 0), BAD);
        due("v 10", x.tree(0, 10, 0, 0), BAD);
        due("holds -1", x.tree(0, 0, -1, 0), BAD);
        due("holds 100", x.tree(0, 0, 100, 0), BAD);
        due("place -1", x.tree(0, 0, 0, -1), BAD);
        due("place 100", x.tree(0, 0, 0, 100), BAD);
        due("count(0)", x.count(0), 0);

        x = says(4, "FULL: 6.");
        for (int i = 0; i < 6; i++) due("tree " + i, x.tree(0, 0, 0, 0), i);
        due("a seventh", x.tree(1, 1, 1, 1), FULL);
        due("bad ahead of full", x.tree(0, 10, 0, 0), BAD);
        due("count(0)", x.count(0), 6);

        x = says(4, "TREES are numbered from 0 on, 6 at most, each of a KIND:");
        for (int i = 0; i < 6; i++) due("tree " + i, x.tree(6 - i, i, i, i), i);
        for (int i = 0; i < 6; i++) due("its kind", x.of(i, 0), 6 - i);
        due("a seventh", x.tree(0, 0, 0, 0), FULL);
        due("tree 6", x.of(6, 0), NONE);
    }

    private void numbers() {
        TreeToTree x = says(4, "a number v (0 .. 9),");
        due("0", x.tree(0, 0, 0, 0), 0);
        due("9", x.tree(0, 9, 0, 0), 1);
        due("v 0", x.of(0, 1), 0);
        due("v 9", x.of(1, 1), 9);
        due("-1", x.tree(0, -1, 0, 0), BAD);
        due("10", x.tree(0, 10, 0, 0), BAD);

        x = says(4, "HOLDS (0 .. 99: how much rain it takes before it lets any through),");
        x.tree(0, 0, 0, 0);
        x.tree(0, 0, 4, 0);
        x.tree(0, 0, 99, 0);
        wets(x, 0, 4, 4);
        wets(x, 1, 0, 4);
        due("99 by minute 23", x.under(2, 23), 0);
        due("99 by minute 24", x.under(2, 24), 1);
        due("holds 0", x.of(0, 2), 0);
        due("holds 99", x.of(2, 2), 99);

        x = says(4, "a PLACE (0 .. 99 yards along a path, from where all begin, at 0);");
        x.tree(0, 0, 0, 0);
        x.tree(0, 0, 0, 99);
        x.walker(1, 0);
        due("place 0", x.of(0, 3), 0);
        due("place 99", x.of(1, 3), 99);
        x.leg(0, 0);
        due("no way to 0", x.way(0, 1), 60);
        x.leg(1, 0);
        due("99 yards and 39 back", x.way(0, 1), 138);
    }

    private void asking() {
        TreeToTree x = says(5, "Of a TREE what 0 KIND, 1 v, 2 HOLDS, 3 PLACE, 4 UNDER now.");
        x.tree(5, 3, 9, 17);
        due("kind", x.of(0, 0), 5);
        due("v", x.of(0, 1), 3);
        due("holds", x.of(0, 2), 9);
        due("place", x.of(0, 3), 17);
        due("under", x.of(0, 4), 0);
        x.go(2);
        due("under in 2", x.of(0, 4), 3);

        x = says(5, "NONE.");
        due("no tree yet", x.of(0, 0), NONE);
        x.tree(0, 0, 0, 0);
        for (int what : new int[] {-1, 5, Integer.MIN_VALUE, Integer.MAX_VALUE}) {
            due("what " + what, x.of(0, what), NONE);
        }
        for (int tree : new int[] {-1, 1, 6, Integer.MIN_VALUE, Integer.MAX_VALUE}) {
            due("tree " + tree, x.of(tree, 0), NONE);
        }
    }

    private void holding() {
        TreeToTree x = says(6, "HOLDS of a TREE becomes n: what it was.");
        x.tree(0, 0, 10, 0);
        x.tree(0, 0, 20, 0);
        due("0", x.hold(0, 0), 10);
        due("under", x.under(0, 0), 4);
        due("99", x.hold(0, 99), 0);
        due("of", x.of(0, 2), 99);
        due("under at 23", x.under(0, 23), 0);
        due("under at 24", x.under(0, 24), 1);
        due("back", x.hold(0, 10), 99);
        due("under at 2", x.under(0, 2), 2);
        due("the other", x.of(1, 2), 20);

        x = says(6, "NONE; BAD.");
        due("no tree yet", x.hold(0, 0), NONE);
        x.tree(0, 0, 10, 0);
        due("tree 1", x.hold(1, 0), NONE);
        due("tree -1", x.hold(-1, 0), NONE);
        due("none ahead of bad", x.hold(1, 100), NONE);
        due("-1", x.hold(0, -1), BAD);
        due("100", x.hold(0, 100), BAD);
        due("of", x.of(0, 2), 10);
    }

    private void rows() {
        TreeToTree x = says(7, "The ROW of a TOLD one becomes n (0 .. 9) for MINUTES modulo 4 being k: what it was.");
        x.tree(6, 0, 0, 0);
        x.tree(6, 0, 0, 0);
        due("9 for 1", x.row(0, 1, 9), 0);
        wets(x, 0, 4, 13, 4, 4, 4, 13);
        due("2 for 1", x.row(0, 1, 2), 9);
        due("0 for 3", x.row(0, 3, 0), 0);
        due("5 for 0", x.row(0, 0, 5), 0);
        wets(x, 0, 9, 6, 4, 4, 9);
        wets(x, 1, 4, 4, 4, 4, 4);

        x = says(7, "NONE: tree, k;");
        due("no tree yet", x.row(0, 0, 0), NONE);
        x.tree(6, 0, 0, 0);
        x.tree(3, 0, 0, 0);
        due("k -1", x.row(0, -1, 0), NONE);
        due("k 4", x.row(0, 4, 0), NONE);
        due("tree 2", x.row(2, 0, 0), NONE);
        due("tree -1", x.row(-1, 0, 0), NONE);
        due("tree ahead of bad", x.row(2, 0, 10), NONE);
        due("k ahead of bad", x.row(0, 4, 10), NONE);
        due("k ahead of state", x.row(1, 4, 0), NONE);

        x = says(7, "BAD;");
        x.tree(6, 0, 0, 0);
        x.tree(3, 0, 0, 0);
        due("-1", x.row(0, 0, -1), BAD);
        due("10", x.row(0, 0, 10), BAD);
        due("bad ahead of state", x.row(1, 0, 10), BAD);
        due("still 0", x.row(0, 0, 9), 0);

        x = says(7, "STATE: another KIND.");
        for (int kind = 0; kind < 6; kind++) x.tree(kind, 0, 0, 0);
        for (int kind = 0; kind < 6; kind++) due("kind " + kind, x.row(kind, 0, 0), STATE);
        due("late ones stay as they are", x.under(3, 0), 4);

        x = says(7, "TOLD ones a ROW of four numbers (0 .. 9; 0 at first).");
        x.tree(6, 0, 0, 0);
        wets(x, 0, 4, 4, 4, 4);
        for (int k = 0; k < 4; k++) due("0 at first, " + k, x.row(0, k, 6 + k), 0);
        wets(x, 0, 10, 11, 12, 13, 10);
        for (int k = 0; k < 4; k++) due("as told, " + k, x.row(0, k, 0), 6 + k);
    }

    private void under() {
        TreeToTree x = says(15, "UNDER a TREE n MINUTES (0 .. 60) from now.");
        x.tree(4, 9, 0, 0);
        due("now", x.under(0, 0), 0);
        due("in 1", x.under(0, 1), 2);
        due("in 59", x.under(0, 59), 2);
        due("in 60", x.under(0, 60), 0);
        x.go(1);
        due("from 1 on", x.under(0, 0), 2);
        due("in 9 from 1 on", x.under(0, 9), 0);
        due("in 60 from 1 on", x.under(0, 60), 2);

        x = says(15, "NONE; BAD.");
        due("no tree yet", x.under(0, 0), NONE);
        x.tree(0, 0, 0, 0);
        due("tree 1", x.under(1, 0), NONE);
        due("tree -1", x.under(-1, 0), NONE);
        due("none ahead of bad", x.under(1, 61), NONE);
        due("-1", x.under(0, -1), BAD);
        due("61", x.under(0, 61), BAD);
    }

    private void fallen() {
        TreeToTree x = says(15, "How wet it is under a TREE at a MINUTE m (UNDER): F being all RAIN (at that TREE)"
            + " at MINUTES 0 .. m, together;");
        x.tree(0, 0, 10, 0);
        x.tree(0, 0, 10, 0);
        Checks.park(x, "rain 6 t=1;less 4 t=0;rain 9 t=9");
        wets(x, 0, 0, 0, 0);
        wets(x, 1, 0, 10, 10);
        x.go(2);
        due("from minute 0 on, not from now", x.under(1, 0), 10);
        due("rain at one's own tree", x.under(0, 60), 0);

        says(15, "G, the same ahead of m;");
        wets(planted("rain 5 m=1;less 4 m=3", 0, 0, 4), 0, 0, 9, 4, 0, 4);

        says(15, "through of a sum X: X less HOLDS, 0 at least.");
        wets(planted("wait 1", 0, 0, 3), 0, 1, 4);
        wets(planted("wait 1", 0, 0, 4), 0, 0, 4);
        wets(planted("wait 1", 0, 0, 5), 0, 0, 3, 4);
    }

    private void treesAndThick() {
        TreeToTree x = says(15, "TREE: through F less through G.");
        x.tree(0, 9, 10, 0);
        x.tree(0, 0, 8, 0);
        x.tree(0, 5, 0, 0);
        wets(x, 0, 0, 0, 2, 4, 4);
        wets(x, 1, 0, 0, 4, 4);
        wets(x, 2, 4, 4, 4);
        x = planted(TILL_TEN, 0, 0, 38);
        due("the last rain", x.under(0, 9), 2);
        due("none behind it", x.under(0, 10), 0);

        x = says(15, "THICK: the half (cut) of that.");
        x.tree(1, 7, 10, 0);
        x.tree(1, 7, 11, 0);
        x.tree(1, 7, 9, 0);
        wets(x, 0, 0, 0, 1, 2, 2);
        wets(x, 1, 0, 0, 0, 2, 2);
        wets(x, 2, 0, 0, 1, 2, 2);
        wets(planted("rain 1 m<9", 1, 0, 0), 0, 2, 2);
        wets(planted("less 3 m<9", 1, 0, 0), 0, 0, 0);
    }

    private void thin() {
        TreeToTree x = says(15, "THIN: RAIN then less v, 0 at least,");
        x.tree(2, 0, 99, 0);
        x.tree(2, 3, 99, 0);
        x.tree(2, 4, 99, 0);
        x.tree(2, 9, 99, 0);
        for (int i = 0; i < 4; i++) wets(x, i, new int[] {4, 1, 0, 0}[i], new int[] {4, 1, 0, 0}[i]);

        x = says(15, "till F is HOLDS or more, RAIN from then on.");
        x.tree(2, 3, 8, 0);
        x.tree(2, 3, 9, 0);
        x.tree(2, 3, 7, 0);
        x.tree(2, 9, 0, 0);
        wets(x, 0, 1, 4, 4);
        wets(x, 1, 1, 1, 4);
        wets(x, 2, 1, 4, 4);
        wets(x, 3, 4, 4);
        x = planted(TILL_TEN, 2, 3, 10);
        due("the last rain", x.under(0, 9), 4);
        due("none then", x.under(0, 10), 0);
    }

    private void late() {
        TreeToTree x = says(15, "LATE: as TREE, but by F, G as they were at the MINUTE v earlier");
        x.tree(3, 0, 10, 0);
        x.tree(3, 1, 0, 0);
        x.tree(3, 5, 10, 0);
        wets(x, 0, 0, 0, 2, 4);
        due("1 later", x.under(1, 1), 4);
        due("7 by 2", x.under(2, 7), 2);
        due("8 by 3", x.under(2, 8), 4);
        wets(planted("rain 5 m=1;less 3 m=2", 3, 2, 0), 0, 1, 1, 4, 9, 1, 4);

        x = says(15, "(0, if that is ahead of MINUTE 0);");
        x.tree(3, 9, 99, 0);
        for (int m = 0; m < 10; m++) due("minute " + m, x.under(0, m), 0);
        x.tree(3, 3, 2, 0);
        wets(x, 1, 1, 1, 1, 2, 4);

        x = says(15, "and 1, if that is 0 though F (of m) is above HOLDS.");
        x.tree(3, 2, 10, 0);
        x.tree(3, 2, 8, 0);
        x.tree(3, 9, 0, 0);
        wets(x, 0, 0, 0, 1, 1, 2, 4, 4);
        wets(x, 1, 0, 0, 1, 1, 4, 4);
        wets(x, 2, 1, 1, 1, 1, 1, 1, 1, 1, 1, 4);
        x = planted(TILL_TEN, 3, 2, 10);
        due("the last of it", x.under(0, 11), 4);
        due("behind it", x.under(0, 12), 1);
        due("ever", x.under(0, 60), 1);
        x = planted(TILL_TEN, 3, 2, 40);
        due("not above", x.under(0, 60), 0);
        x.hold(0, 39);
        due("above by 1", x.under(0, 60), 1);
    }

    private void hollow() {
        TreeToTree x = says(15, "HOLLOW: as THICK, 0 at MINUTES that are multiples of v and 1.");
        x.tree(4, 2, 10, 0);
        x.tree(4, 1, 0, 0);
        x.tree(4, 0, 0, 0);
        x.tree(4, 9, 0, 0);
        wets(x, 0, 0, 0, 1, 0, 2, 2, 0, 2, 2, 0);
        wets(x, 1, 0, 2, 0, 2);
        wets(x, 2, 0, 0, 0, 0);
        wets(x, 3, 0, 2, 2, 2, 2, 2, 2, 2, 2, 2, 0, 2);
        x.go(1);
        wets(x, 1, 2, 0, 2);
        wets(planted("rain 1 m<9", 4, 1, 0), 0, 0, 2, 0, 2);
    }

    private void broad() {
        TreeToTree x = says(15, "BROAD: as THIN, less 1 (0 at least).");
        x.tree(5, 3, 10, 0);
        x.tree(5, 2, 10, 0);
        x.tree(5, 9, 99, 0);
        x.tree(5, 3, 8, 0);
        wets(x, 0, 0, 0, 3, 3);
        wets(x, 1, 1, 1, 3, 3);
        wets(x, 2, 0, 0, 0);
        wets(x, 3, 0, 3, 3);
        wets(planted("less 3 m<9", 5, 0, 0), 0, 0, 0);
        wets(planted("less 4 m<9", 5, 0, 0), 0, 0, 0);
    }

    private void told() {
        says(15, "TOLD: as LATE, and its ROW at m modulo 4 more, if F is above HOLDS.");
        wets(told(2, 10, 5, 0, 7, 1), 0, 0, 0, 1 + 7, 1 + 1, 2 + 5, 4, 4 + 7, 4 + 1);
        wets(told(2, 8, 9, 9, 7, 1), 0, 0, 0, 1 + 7, 1 + 1, 4 + 9);
        wets(told(0, 10, 9, 9, 9, 9), 0, 0, 0, 2 + 9, 4 + 9);
        wets(told(9, 0, 1, 2, 3, 4), 0, 1 + 1, 1 + 2, 1 + 3, 1 + 4, 1 + 1);
        TreeToTree x = told(0, 0, 1, 2, 3, 4);
        x.go(3);
        wets(x, 0, 8, 5, 6);
        Checks.park(x, TILL_TEN);
        x.hold(0, 40);
        due("not above", x.under(0, 30), 0);
        x.hold(0, 39);
        due("above by 1, at minute 33", x.under(0, 30), 1 + 2);
    }
}
