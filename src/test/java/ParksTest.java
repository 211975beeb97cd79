/** Promises 1 to 15: parks, trees, walkers. */
public final class ParksTest {
    private static final int NONE = -1, BAD = -2, STATE = -3, FULL = -4;
    private static final Checks checks = new Checks("ParksTest");

    public static void main(String[] args) {
        newObject();
        feeding();
        faults();
        parks();
        clausesAndTests();
        rainWithout();
        trees();
        treesAsked();
        holding();
        rows();
        underEachKind();
        walkers();
        homeAndTold();
        going();
        raining();
        checks.end();
    }

    private static void due(String call, long got, long want) {
        checks.due(call, got, want);
    }

    private static void newObject() {
        TreeToTree x = new TreeToTree();
        for (int what = 0; what < 8; what++) due("1: count " + what, x.count(what), 0);
        int[] told = {0, 99, 1, 60, 4};
        for (int what = 0; what < 5; what++) due("1: told " + what, x.told(what), told[what]);
        due("1: no tree", x.of(0, 0), NONE);
        due("1: no walker", x.at(0, 0), NONE);
        due("1: no image", x.undo(), STATE);
        due("1: no trace", x.trace(0), NONE);
        due("1: seen", x.see(5), 0);
    }

    private static void feeding() {
        TreeToTree x = new TreeToTree();
        due("2: feed -1", x.feed(-1), BAD);
        due("2: feed 128", x.feed(128), BAD);
        due("2: feed least", x.feed(Integer.MIN_VALUE), BAD);
        due("2: nothing came", x.count(6), 0);
        due("2: feed 0", x.feed(0), 1);
        due("2: feed 127", x.feed(127), 2);
        for (int i = 3; i <= 100; i++) due("2: feed the " + i, x.feed('a'), i);
        due("2: full", x.feed('a'), FULL);
        due("2: bad ahead of full", x.feed(128), BAD);
        due("2: still 100", x.count(6), 100);
    }

    /** Each text with the place of its fault. */
    private static void faults() {
        fault("", 0);
        fault("Soak 1", 0);
        fault("x", 0);
        fault("soar 1", 3);
        fault("soak", 4);
        fault("soak1", 4);
        fault("soak ", 5);
        fault("soak  1", 5);
        fault("soak 05", 6);
        fault("soak 1 ", 6);
        fault("wait 100", 7);
        fault("wait 1;", 7);
        fault("soak 1;;soak 1", 7);
        fault("soak 1; soak 1", 7);
        fault("rain 5", 6);
        fault("rain 5;soak 1", 6);
        fault("rain 5 ", 7);
        fault("rain 5  m=1", 7);
        fault("rain 5 x<1", 7);
        fault("rain 5 m", 8);
        fault("rain 5 m!1", 8);
        fault("rain 5 m<", 9);
        fault("rain 5 m<a", 9);
        fault("rain 5 m<01", 10);
        fault("rain 5 m<100", 11);
        fault("rain 05 m<1", 6);
        fault("rain 5 m<1)", 10);
        fault("rain 5 (m<1", 11);
        fault("rain 5 (m<1;soak 1", 11);
        fault("rain 5 ()", 8);
        fault("rain 5 m<1&", 11);
        fault("rain 5 m<1&&m<2", 11);
        fault("rain 5 m<1|&m<2", 11);
        fault("rain 5 m<1!m<2", 10);
        fault("rain 5 !&m<2", 8);
        fault("less 5 h=1 ", 10);
        fault("lesm 5 h=1", 3);
    }

    private static void fault(String text, int place) {
        TreeToTree x = new TreeToTree();
        due("3: park of '" + text + "'", Checks.park(x, text), -10 - place);
        due("3: the tape behind '" + text + "'", x.count(6), 0);
        due("3: no park of '" + text + "'", x.count(2), 0);
    }

    private static void parks() {
        TreeToTree x = new TreeToTree();
        due("3: first", Checks.park(x, "soak 50;wait 3"), 0);
        due("3: its soak", x.told(1), 50);
        due("3: its wait", x.told(2), 3);
        due("3: a fault", Checks.park(x, "soak 7;wait 9;rain 9 m=0;"), -35);
        due("3: the one that held holds: soak", x.told(1), 50);
        due("3: wait", x.told(2), 3);
        due("3: rain", x.told(4), 4);
        due("3: a longer fault", Checks.park(x, "rain 6 m=0;rain 7 m=0|m=1;less 8 m=0&k=9;x"), -51);
        due("3: second", Checks.park(x, "rain 6 m=0"), 1);
        due("3: soak without", x.told(1), 99);
        due("3: wait without", x.told(2), 1);
        due("3: rain of the newest", x.told(4), 10);
        due("3: the last soak", Checks.park(x, "soak 1;soak 0;wait 99;soak 20;wait 0"), 2);
        due("3: soak 20", x.told(1), 20);
        due("3: wait 0", x.told(2), 0);
        due("3: fourth", Checks.park(x, "soak 2"), 3);
        due("3: fifth", Checks.park(x, "soak 3"), 4);
        Checks.feed(x, "nonsense");
        due("3: full ahead of a fault", x.park(), FULL);
        due("3: the tape stays", x.count(6), 8);
        due("3: five", x.count(2), 5);
        due("3: the fifth holds", x.told(1), 3);
    }

    private static void clausesAndTests() {
        String ten = "soak 1;soak 2;soak 3;soak 4;soak 5;soak 6;soak 7;soak 8;soak 9;wait 2";
        due("3: ten clauses", Checks.park(new TreeToTree(), ten), 0);
        due("3: eleven", Checks.park(new TreeToTree(), ten + ";soak 1"), -10 - 69);
        due("3: eleven, early end", Checks.park(new TreeToTree(), ten + ";"), -10 - 69);
        due("3: five open", Checks.park(new TreeToTree(), "rain 5 !(!(!m=1))"), 0);
        due("3: six open", Checks.park(new TreeToTree(), "rain 5 !(!(!!m=1))"), -22);
        due("3: six (", Checks.park(new TreeToTree(), "rain 5 ((((((m=1))))))"), -22);
        due("3: a ! ends", Checks.park(new TreeToTree(), "rain 5 !m=1&!m=2&!m=3|!m=4|!m=5&!m=6"), 0);
        due("3: a ( ends", Checks.park(new TreeToTree(), "rain 5 (m=1)&(m=2)&(m=3)&(m=4)&((m=5))|!(m=6)"), 0);
        String full = "rain 99 (m<10&h<99)|(t=9)|(k=99)|(v>10);less 99 !m<10|!(h<9&h>10)&!m=7;soak 99;wait 99;wait 9;soak 8";
        due("3: 100 bytes", full.length(), 100);
        due("3: 100 bytes that go on", Checks.park(new TreeToTree(), full.substring(0, 94) + "rain 9"), -110);
        TreeToTree x = new TreeToTree();
        due("3: 100 bytes that are a park", Checks.park(x, full), 0);
        due("3: its soak", x.told(1), 8);
    }

    private static void rainWithout() {
        rain("rain 1 m=0", 0, 5);
        rain("rain 1 m=0", 10, 5);
        rain("rain 1 m=0", 11, 4);
        rain("rain 1 m<3", 12, 5);
        rain("rain 1 m<3", 13, 4);
        rain("rain 1 m>3", 13, 4);
        rain("rain 1 m>3", 14, 5);
        rain("rain 1 h=1", 9, 4);
        rain("rain 1 h=1", 19, 5);
        rain("rain 1 h=12", 60 + 60, 5);
        rain("rain 1 t=9&k=9&v=9", 0, 5);
        rain("rain 1 t<9|k<9|v<9", 0, 4);
        rain("rain 1 m=1|m=0&m=1", 0, 4);
        rain("rain 1 (m=0|m=1)&m=1", 0, 4);
        rain("rain 1 m=0|m=1&m=1", 0, 5);
        rain("rain 1 m=1&m=1|m=0", 0, 5);
        rain("rain 1 m=1|m=2|m=0&h=0", 0, 5);
        rain("rain 1 !m=0|m=1", 1, 5);
        rain("rain 1 !(m=0|m=1)", 1, 4);
        rain("rain 1 !m=1&m=0", 1, 4);
        rain("rain 1 !!m=1", 1, 5);
        rain("less 3 m=0;rain 2 m=0", 0, 3);
        rain("less 9 m=0;rain 2 m=0", 0, 0);
        rain("less 9 m=0;rain 20 m=0;less 9 m=0", 0, 6);
        rain("rain 99 m=0;rain 99 m=0;rain 99 h=0", 0, 301);
    }

    private static void rain(String text, int minute, int want) {
        TreeToTree x = new TreeToTree();
        Checks.park(x, text);
        int left = minute;
        for (; left > 60; left -= 60) x.go(60);
        due("3: rain by '" + text + "' at " + minute, x.rain(-1, left), want);
    }

    private static void trees() {
        TreeToTree x = new TreeToTree();
        due("4: kind -1", x.tree(-1, 0, 0, 0), NONE);
        due("4: kind 7", x.tree(7, 0, 0, 0), NONE);
        due("4: kind ahead of v", x.tree(7, 10, 0, 0), NONE);
        due("4: v -1", x.tree(0, -1, 0, 0), BAD);
        due("4: v 10", x.tree(0, 10, 0, 0), BAD);
        due("4: holds -1", x.tree(0, 0, -1, 0), BAD);
        due("4: holds 100", x.tree(0, 0, 100, 0), BAD);
        due("4: place -1", x.tree(0, 0, 0, -1), BAD);
        due("4: place 100", x.tree(0, 0, 0, 100), BAD);
        due("4: none came", x.count(0), 0);
        for (int i = 0; i < 6; i++) due("4: tree " + i, x.tree(6 - i, 9, 99, 99), i);
        due("4: full", x.tree(0, 0, 0, 0), FULL);
        due("4: bad ahead of full", x.tree(0, 10, 0, 0), BAD);
        due("4: six", x.count(0), 6);
    }

    private static void treesAsked() {
        TreeToTree x = new TreeToTree();
        x.tree(5, 3, 2, 17);
        due("5: kind", x.of(0, 0), 5);
        due("5: v", x.of(0, 1), 3);
        due("5: holds", x.of(0, 2), 2);
        due("5: place", x.of(0, 3), 17);
        due("5: under", x.of(0, 4), 3);
        due("5: what -1", x.of(0, -1), NONE);
        due("5: what 5", x.of(0, 5), NONE);
        due("5: tree 1", x.of(1, 0), NONE);
        due("5: tree -1", x.of(-1, 0), NONE);
        x.tree(0, 0, 6, 0);
        due("5: under at first", x.of(1, 4), 0);
        x.go(1);
        due("5: under now", x.of(1, 4), 2);
    }

    private static void holding() {
        TreeToTree x = new TreeToTree();
        x.tree(0, 0, 10, 0);
        due("6: no tree", x.hold(1, 0), NONE);
        due("6: none ahead of bad", x.hold(1, 100), NONE);
        due("6: -1", x.hold(0, -1), BAD);
        due("6: 100", x.hold(0, 100), BAD);
        due("6: as it was", x.of(0, 2), 10);
        due("6: under", x.under(0, 2), 2);
        due("6: 0", x.hold(0, 0), 10);
        due("6: all of it", x.under(0, 2), 4);
        due("6: 99", x.hold(0, 99), 0);
        due("6: nothing", x.under(0, 23), 0);
        due("6: then", x.under(0, 24), 1);
    }

    private static void rows() {
        TreeToTree x = new TreeToTree();
        x.tree(6, 0, 0, 0);
        x.tree(3, 0, 0, 0);
        due("7: under", x.under(0, 5), 4);
        due("7: put", x.row(0, 1, 9), 0);
        due("7: more", x.under(0, 5), 13);
        due("7: not then", x.under(0, 4), 4);
        due("7: put again", x.row(0, 1, 2), 9);
        due("7: k 4", x.row(0, 4, 0), NONE);
        due("7: k -1", x.row(0, -1, 0), NONE);
        due("7: tree 2", x.row(2, 0, 0), NONE);
        due("7: n 10", x.row(0, 0, 10), BAD);
        due("7: n -1", x.row(0, 0, -1), BAD);
        due("7: bad ahead of state", x.row(1, 0, 10), BAD);
        due("7: another kind", x.row(1, 0, 0), STATE);
        due("7: none ahead of state", x.row(1, 4, 0), NONE);
    }

    private static void underEachKind() {
        under("TREE", 0, 0, 10, 0, 0, 2, 4, 4, 4);
        under("TREE that is just full", 0, 0, 8, 0, 0, 4, 4);
        under("TREE that holds nothing", 0, 5, 0, 4, 4, 4);
        under("THICK", 1, 7, 10, 0, 0, 1, 2, 2);
        under("THICK, cut", 1, 7, 11, 0, 0, 0, 2, 2);
        under("THIN", 2, 3, 10, 1, 1, 4, 4);
        under("THIN that is just full", 2, 3, 8, 1, 4, 4);
        under("THIN, much", 2, 9, 10, 0, 0, 4, 4);
        under("LATE", 3, 2, 10, 0, 0, 1, 1, 2, 4, 4);
        under("LATE that is just full", 3, 2, 8, 0, 0, 1, 1, 4, 4);
        under("LATE at once", 3, 0, 10, 0, 0, 2, 4);
        under("HOLLOW", 4, 2, 10, 0, 0, 1, 0, 2, 2, 0, 2);
        under("HOLLOW, ever", 4, 0, 0, 0, 0, 0, 0);
        under("BROAD", 5, 3, 10, 0, 0, 3, 3);
        under("BROAD, less", 5, 2, 10, 1, 1, 3, 3);
        under("BROAD, much", 5, 9, 99, 0, 0, 0);
        under("TOLD", 6, 2, 10, 0, 0, 8, 2, 7, 4, 11, 5);
        under("TOLD that is just full", 6, 2, 8, 0, 0, 8, 2, 9, 4);
    }

    private static void under(String name, int kind, int v, int holds, int... wants) {
        TreeToTree x = new TreeToTree();
        x.tree(kind, v, holds, 0);
        if (kind == 6) {
            x.row(0, 0, 5);
            x.row(0, 2, 7);
            x.row(0, 3, 1);
        }
        for (int m = 0; m < wants.length; m++) due("15: " + name + " at " + m, x.under(0, m), wants[m]);
        x.go(2);
        for (int m = 2; m < wants.length; m++) due("15: " + name + " later", x.under(0, m - 2), wants[m]);
        due("15: no tree", x.under(1, 0), NONE);
        due("15: tree -1", x.under(-1, 0), NONE);
        due("15: none ahead of bad", x.under(1, 61), NONE);
        due("15: n 61", x.under(0, 61), BAD);
        due("15: n -1", x.under(0, -1), BAD);
    }

    private static void walkers() {
        TreeToTree x = new TreeToTree();
        due("8: pace 0", x.walker(0, 0), BAD);
        due("8: pace 21", x.walker(21, 0), BAD);
        due("8: coat -1", x.walker(1, -1), BAD);
        due("8: coat 100", x.walker(1, 100), BAD);
        due("8: least", x.walker(1, 0), 0);
        due("8: most", x.walker(20, 99), 1);
        for (int i = 2; i < 5; i++) due("8: walker " + i, x.walker(i, i), i);
        due("8: full", x.walker(1, 0), FULL);
        due("8: bad ahead of full", x.walker(0, 0), BAD);
        due("9: pace", x.at(1, 0), 20);
        due("9: coat", x.at(1, 1), 99);
        due("9: what 2", x.at(1, 2), NONE);
        due("9: what -1", x.at(1, -1), NONE);
        due("9: walker 5", x.at(5, 0), NONE);
        due("9: walker -1", x.at(-1, 0), NONE);
        due("10: gear", x.gear(1, 7, 8), 20);
        due("10: pace", x.at(1, 0), 7);
        due("10: coat", x.at(1, 1), 8);
        due("10: no walker", x.gear(5, 0, 0), NONE);
        due("10: pace 0", x.gear(1, 0, 8), BAD);
        due("10: pace 21", x.gear(1, 21, 8), BAD);
        due("10: coat 100", x.gear(1, 1, 100), BAD);
        due("10: coat -1", x.gear(1, 1, -1), BAD);
        due("10: as it was", x.at(1, 0), 7);
        due("10: another", x.at(2, 0), 2);
    }

    private static void homeAndTold() {
        TreeToTree x = new TreeToTree();
        due("11: home", x.home(99), 60);
        due("11: home 0", x.home(0), 99);
        due("11: -1", x.home(-1), BAD);
        due("11: 100", x.home(100), BAD);
        due("11: as it was", x.told(3), 0);
        due("12: what -1", x.told(-1), NONE);
        due("12: what 5", x.told(5), NONE);
        Checks.park(x, "soak 12;wait 34;rain 5 m=7");
        x.go(7);
        int[] told = {7, 12, 34, 0, 9};
        for (int what = 0; what < 5; what++) due("12: told " + what, x.told(what), told[what]);
    }

    private static void going() {
        TreeToTree x = new TreeToTree();
        due("13: 0", x.go(0), 0);
        due("13: -1", x.go(-1), BAD);
        due("13: 61", x.go(61), BAD);
        due("13: most", x.go(Integer.MAX_VALUE), BAD);
        for (int i = 1; i <= 16; i++) due("13: 60", x.go(60), 60 * i);
        due("13: above 999", x.go(40), STATE);
        due("13: bad ahead of state", x.go(61), BAD);
        due("13: 999", x.go(39), 999);
        due("13: 1 more", x.go(1), STATE);
        due("13: 0 more", x.go(0), 999);
        Checks.park(x, "rain 1 h>99&m=5");
        due("13: behind 999", x.rain(-1, 6), 5);
        due("13: at 999", x.rain(-1, 0), 4);
    }

    private static void raining() {
        TreeToTree x = new TreeToTree();
        x.tree(0, 1, 0, 0);
        x.tree(2, 3, 0, 0);
        Checks.park(x, "rain 9 m<5&t=0;less 9 h=1|k=2;rain 1 v>8;rain 2 v=3");
        due("14: at 0", x.rain(0, 4), 13);
        due("14: at 0 later", x.rain(0, 5), 4);
        due("14: at 0, h 1", x.rain(0, 14), 4);
        due("14: at 0, less", x.rain(0, 15), 0);
        due("14: at 1", x.rain(1, 0), 0);
        due("14: without", x.rain(-1, 0), 5);
        due("14: without, h 1", x.rain(-1, 10), 0);
        x.go(10);
        due("14: from now", x.rain(0, 4), 4);
        due("14: tree -2", x.rain(-2, 0), NONE);
        due("14: tree 2", x.rain(2, 61), NONE);
        due("14: n -1", x.rain(-1, -1), BAD);
        due("14: n 61", x.rain(0, 61), BAD);
        due("14: n 60", x.rain(0, 60), 13);
    }
}
