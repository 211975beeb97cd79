/** Promises 32 to 40: seen, odds, rules, books. */
public final class SeenTest {
    private static final int NONE = -1, BAD = -2, FULL = -4, NOTHING = -5;
    private static final Checks checks = new Checks("SeenTest");

    public static void main(String[] args) {
        see();
        stood();
        who();
        odds();
        mean();
        rule();
        ruled();
        book();
        looked();
        checks.end();
    }

    private static void due(String call, long got, long want) {
        checks.due(call, got, want);
    }

    private static void see() {
        TreeToTree x = new TreeToTree();
        due("32: 0 at first", x.see(99), 0);
        due("32: what it was", x.see(0), 99);
        due("32: -1", x.see(-1), BAD);
        due("32: 100", x.see(100), BAD);
        due("32: as it was", x.see(5), 0);
        due("32: nothing else", x.count(2), 0);
        Checks.park(x, "soak 1");
        due("32: a park changes it not", x.see(6), 5);
    }

    private static void stood() {
        TreeToTree x = new TreeToTree();
        x.tree(0, 0, 10, 30);
        x.tree(0, 0, 99, 30);
        x.walker(10, 0);
        x.see(32);
        due("33: how many", x.stood(0, 0, 0), 1);
        due("33: the least", x.stood(0, 0, 1), 2);
        x.see(99);
        due("33: soaked: 19 and 20", x.stood(0, 0, 0), 2);
        due("33: the least", x.stood(0, 0, 1), 19);
        x.see(25);
        due("33: none", x.stood(0, 0, 0), 0);
        due("33: no least", x.stood(0, 0, 1), NOTHING);
        x.see(24);
        due("33: at once", x.stood(0, 0, 1), 0);
        due("33: all", x.stood(0, 1, 0), 21);
        due("33: the least of all", x.stood(0, 1, 1), 0);
        due("33: what 2", x.stood(0, 0, 2), NONE);
        due("33: what -1", x.stood(0, 0, -1), NONE);
        due("33: walker 1", x.stood(1, 0, 0), NONE);
        due("33: tree 2", x.stood(0, 2, 0), NONE);
        due("33: tree -1", x.stood(0, -1, 0), NONE);
    }

    private static void who() {
        TreeToTree x = new TreeToTree();
        due("34: nobody", x.who(), 0);
        x.walker(10, 0);
        x.walker(20, 0);
        x.walker(5, 24);
        x.walker(10, 99);
        x.walker(3, 99);
        x.see(24);
        due("34: 24", x.who(), 0b00101);
        x.see(12);
        due("34: 12", x.who(), 0b00010);
        x.see(0);
        due("34: dry", x.who(), 0b11000);
        x.see(1);
        due("34: none", x.who(), 0);
        Checks.park(x, "rain 5 m=0");
        x.see(17);
        due("34: from now on", x.who(), 0b00010);
    }

    private static void odds() {
        TreeToTree x = new TreeToTree();
        x.walker(20, 0);
        fraction("35: never", x.odds(0, 11, 0), x.odds(0, 11, 1), 0, 1);
        fraction("35: ever", x.odds(0, 12, 0), x.odds(0, 12, 1), 1, 1);
        Checks.park(x, "less 4 m>4&m<8");
        fraction("35: 0", x.odds(0, 0, 0), x.odds(0, 0, 1), 1, 10);
        fraction("35: 3", x.odds(0, 3, 0), x.odds(0, 3, 1), 1, 10);
        fraction("35: 4", x.odds(0, 4, 0), x.odds(0, 4, 1), 3, 10);
        fraction("35: 8", x.odds(0, 8, 0), x.odds(0, 8, 1), 1, 2);
        fraction("35: 99", x.odds(0, 99, 0), x.odds(0, 99, 1), 1, 1);
        x.go(5);
        fraction("35: from now", x.odds(0, 0, 0), x.odds(0, 0, 1), 1, 10);
        due("35: q -1", x.odds(0, -1, 0), TreeToTree.NO);
        due("35: q 100", x.odds(0, 100, 0), TreeToTree.NO);
        due("35: part 2", x.odds(0, 0, 2), TreeToTree.NO);
        due("35: part -1", x.odds(0, 0, -1), TreeToTree.NO);
        due("35: walker 1", x.odds(1, 0, 0), TreeToTree.NO);
        due("35: NO", TreeToTree.NO, Long.MIN_VALUE);
    }

    private static void fraction(String call, long above, long below, long wantAbove, long wantBelow) {
        due(call + " above", above, wantAbove);
        due(call + " below", below, wantBelow);
    }

    private static void mean() {
        TreeToTree x = new TreeToTree();
        x.tree(0, 0, 10, 0);
        fraction("36: 1", x.mean(0, 1, 0), x.mean(0, 1, 1), 0, 1);
        fraction("36: 2", x.mean(0, 2, 0), x.mean(0, 2, 1), 0, 1);
        fraction("36: 3", x.mean(0, 3, 0), x.mean(0, 3, 1), 2, 3);
        fraction("36: 4", x.mean(0, 4, 0), x.mean(0, 4, 1), 3, 2);
        fraction("36: 60", x.mean(0, 60, 0), x.mean(0, 60, 1), 23, 6);
        x.go(3);
        fraction("36: from now", x.mean(0, 7, 0), x.mean(0, 7, 1), 4, 1);
        due("36: n 0", x.mean(0, 0, 0), TreeToTree.NO);
        due("36: n 61", x.mean(0, 61, 0), TreeToTree.NO);
        due("36: part 2", x.mean(0, 1, 2), TreeToTree.NO);
        due("36: part -1", x.mean(0, 1, -1), TreeToTree.NO);
        due("36: tree 1", x.mean(1, 1, 0), TreeToTree.NO);
        due("36: tree -1", x.mean(-1, 1, 0), TreeToTree.NO);
    }

    private static void rule() {
        TreeToTree x = new TreeToTree();
        due("37: no tree", x.rule(0, 0), NONE);
        due("37: none whatever the tree", x.rule(9, -1), 0);
        x.tree(0, 0, 0, 0);
        due("37: tree -1", x.rule(-1, 0), NONE);
        due("37: none ahead of bad", x.rule(1, 21), NONE);
        due("37: n 21", x.rule(0, 21), BAD);
        due("37: n -2", x.rule(0, -2), BAD);
        for (int i = 1; i <= 4; i++) due("37: row " + i, x.rule(0, i == 1 ? 0 : 20), i);
        due("37: full", x.rule(0, 0), FULL);
        due("37: bad ahead of full", x.rule(0, 21), BAD);
        due("37: four", x.count(4), 4);
        due("37: none then", x.rule(-7, -1), 0);
        due("37: none", x.count(4), 0);
    }

    private static void ruled() {
        TreeToTree x = new TreeToTree();
        x.walker(10, 0);
        x.tree(0, 0, 20, 10);
        x.tree(2, 2, 99, 30);
        x.tree(2, 2, 99, 99);
        due("38: no rows", x.ruled(0, 0), 24);
        x.rule(0, 4);
        // There at 1, dry till 4, wet at 5; then 5 minutes home.
        due("38: wet", x.ruled(0, 0), 4 + 0 + 20);
        due("38: minutes", x.ruled(0, 1), 1 + 4 + 5);
        x.rule(1, 3);
        // On at 5 for 2 minutes; 20 minutes at 2 each but the last one, by which it is full; 3 home.
        due("38: on to the next: wet", x.ruled(0, 0), 4 + 8 + 34 + 12);
        due("38: on to the next: minutes", x.ruled(0, 1), 1 + 4 + 2 + 17 + 3);
        x.rule(0, -1);
        x.rule(2, 2);
        due("38: passed over", x.ruled(0, 1), 6);
        x.rule(0, -1);
        x.rule(2, 3);
        due("38: not passed over", x.ruled(0, 1), 10 + 14 + 4);
        x.rule(0, -1);
        x.rule(0, 5);
        due("38: 20 at most", x.ruled(0, 1), 1 + 20 + 5);
        due("38: wet", x.ruled(0, 0), 4 + 16 * 4 + 20);
        x.rule(0, -1);
        x.rule(0, 0);
        due("38: nothing is less than 0", x.ruled(0, 1), 6);
        x.gear(0, 10, 5);
        due("38: coat", x.ruled(0, 0), 19);
        due("38: what 2", x.ruled(0, 2), NONE);
        due("38: what -1", x.ruled(0, -1), NONE);
        due("38: walker 1", x.ruled(1, 0), NONE);
    }

    private static void book() {
        TreeToTree x = new TreeToTree();
        due("39: no tree", x.book(0, 0, 0), NONE);
        due("39: none whatever the others", x.book(-1, -5, 1000), 0);
        x.tree(0, 0, 0, 0);
        due("39: tree -2", x.book(-2, 0, 0), NONE);
        due("39: none ahead of bad", x.book(1, 1000, 0), NONE);
        due("39: minute -1", x.book(0, -1, 0), BAD);
        due("39: minute 1000", x.book(0, 1000, 0), BAD);
        due("39: under -1", x.book(0, 0, -1), BAD);
        due("39: under 100", x.book(0, 0, 100), BAD);
        for (int i = 1; i <= 8; i++) due("39: row " + i, x.book(0, 999, 99), i);
        due("39: full", x.book(0, 0, 0), FULL);
        due("39: bad ahead of full", x.book(0, 1000, 0), BAD);
        due("39: eight", x.count(5), 8);
        due("39: none then", x.book(-1, 0, 0), 0);
        due("39: none", x.count(5), 0);
    }

    private static void looked() {
        TreeToTree x = new TreeToTree();
        x.tree(0, 0, 10, 0);
        x.tree(3, 2, 10, 0);
        due("40: no rows", x.looked(), NOTHING);
        x.book(0, 2, 2);
        x.book(1, 3, 1);
        x.book(1, 999, 4);
        due("40: all so", x.looked(), NOTHING);
        x.go(60);
        due("40: minutes are not from now", x.looked(), NOTHING);
        x.book(0, 3, 5);
        x.book(0, 3, 6);
        due("40: the first", x.looked(), 3);
        x.hold(1, 8);
        due("40: as it is now", x.looked(), 3);
        x.hold(1, 4);
        due("40: another first", x.looked(), 1);
        x.hold(0, 11);
        due("40: the very first", x.looked(), 0);
    }
}
