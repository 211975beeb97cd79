/** Promises 25 to 31: coats, paces, beginnings. */
public final class CoatsTest {
    private static final int NONE = -1, BAD = -2, NOTHING = -5;
    private static final Checks checks = new Checks("CoatsTest");

    public static void main(String[] args) {
        coats();
        shared();
        run();
        begin();
        worth();
        first();
        stops();
        checks.end();
    }

    private static void due(String call, long got, long want) {
        checks.due(call, got, want);
    }

    private static void coats() {
        TreeToTree x = new TreeToTree();
        x.walker(10, 50);
        x.walker(1, 99);
        due("25: 24", x.coats(0), 24);
        due("25: none", x.coats(1), NOTHING);
        due("25: its coat stays", x.at(0, 1), 50);
        due("25: walker 2", x.coats(2), NONE);
        due("25: walker -1", x.coats(-1), NONE);
        Checks.park(x, "less 1 h<99");
        x.home(33);
        due("25: 99", x.coats(1), 99);
        x.home(34);
        due("25: more than 99", x.coats(1), NOTHING);
        Checks.park(x, "soak 0");
        due("25: soak 0", x.coats(1), 0);
        x.home(0);
        due("25: at home", x.coats(0), 0);
        x.home(60);
        Checks.park(x, "rain 5 m=0");
        due("25: from now on", x.coats(0), 29);
    }

    private static void shared() {
        TreeToTree x = new TreeToTree();
        x.walker(10, 0);
        x.walker(20, 9);
        x.walker(5, 98);
        due("26: half, cut", x.shared(0, 1), 40);
        due("26: the other way round", x.shared(1, 0), 40);
        due("26: half of both together", x.shared(1, 2), 0);
        due("26: 49 of 48", x.shared(0, 2), 0);
        x.gear(2, 5, 80);
        due("26: 40 of 48", x.shared(2, 0), 16);
        due("26: one is both", x.shared(0, 0), BAD);
        due("26: none ahead of bad", x.shared(3, 3), NONE);
        due("26: other 3", x.shared(0, 3), NONE);
        due("26: one -1", x.shared(-1, 0), NONE);
        Checks.park(x, "soak 5");
        due("26: both soaked", x.shared(0, 1), 10);
        x.gear(0, 10, 1);
        x.gear(1, 20, 1);
        Checks.park(x, "soak 99");
        due("26: halves of 1 and 1", x.shared(0, 1), 46);
        Checks.park(x, "rain 5 m=0");
        due("26: from now on", x.shared(0, 1), 56);
    }

    private static void run() {
        TreeToTree x = new TreeToTree();
        x.walker(1, 0);
        x.walker(20, 99);
        due("27: 20", x.run(0), 20);
        due("27: with a coat", x.run(1), 3);
        x.home(19);
        due("27: 19", x.run(0), 19);
        x.home(0);
        due("27: at home", x.run(0), 1);
        due("27: walker 2", x.run(2), NONE);
        due("27: walker -1", x.run(-1), NONE);
        x.home(60);
        Checks.park(x, "less 4 m>2");
        due("27: rain that ends", x.run(0), 6);
        Checks.park(x, "less 4 m>2;soak 12");
        x.home(6);
        x.gear(0, 1, 0);
        due("27: rain for three minutes", x.run(0), 6);
        x.go(1);
        due("27: for two", x.run(0), 6);
        x.go(2);
        due("27: for none", x.run(0), 1);
    }

    private static void begin() {
        TreeToTree x = new TreeToTree();
        Checks.park(x, "less 4 m>4&m<8");
        x.walker(20, 0);
        due("28: 30", x.begin(0, 30), 5);
        due("28: 5", x.begin(0, 5), 5);
        due("28: 4", x.begin(0, 4), 4);
        due("28: 3", x.begin(0, 3), 3);
        due("28: 2, all alike", x.begin(0, 2), 0);
        due("28: 0", x.begin(0, 0), 0);
        due("28: -1", x.begin(0, -1), BAD);
        due("28: 31", x.begin(0, 31), BAD);
        due("28: none ahead of bad", x.begin(1, 31), NONE);
        x.go(6);
        due("28: from now", x.begin(0, 30), 9);
        due("28: from now, not so long", x.begin(0, 8), 0);
    }

    private static void worth() {
        TreeToTree x = new TreeToTree();
        Checks.park(x, "less 4 m=0|m=5");
        x.tree(0, 0, 99, 20);
        x.tree(0, 0, 99, 40);
        x.tree(0, 0, 0, 0);
        due("29: nobody", x.worth(0), 0);
        x.walker(20, 0);
        due("29: the first", x.worth(0), 4);
        due("29: the second", x.worth(1), 4);
        due("29: one that holds nothing", x.worth(2), 0);
        x.walker(20, 0);
        x.walker(20, 2);
        due("29: all of them", x.worth(0), 4 + 4 + 2);
        x.gear(2, 20, 99);
        due("29: one is dry at all events", x.worth(0), 8);
        due("29: tree 3", x.worth(3), NONE);
        due("29: tree -1", x.worth(-1), NONE);
        due("29: changes nothing", x.count(0), 3);
        TreeToTree y = new TreeToTree();
        Checks.park(y, "less 4 h=1");
        y.walker(20, 0);
        y.tree(0, 0, 99, 0);
        due("29: wet at all events", y.worth(0), 8);
        y.walker(20, 0);
        due("29: two of them", y.worth(0), 16);
    }

    private static void first() {
        TreeToTree x = new TreeToTree();
        due("30: nobody", x.first(0), NOTHING);
        due("30: nobody soonest", x.first(1), NOTHING);
        due("30: what 2", x.first(2), NONE);
        due("30: what -1", x.first(-1), NONE);
        x.walker(10, 0);
        x.walker(15, 0);
        x.walker(5, 40);
        x.walker(5, 40);
        due("30: driest, the first of two", x.first(0), 2);
        due("30: soonest", x.first(1), 1);
        x.walker(19, 0);
        due("30: soonest, the first of two alike", x.first(1), 1);
        x.gear(0, 20, 99);
        due("30: the very first, driest", x.first(0), 0);
        due("30: the very first, soonest", x.first(1), 0);
        x.gear(0, 1, 0);
        x.gear(4, 20, 0);
        due("30: soonest now", x.first(1), 4);
    }

    private static void stops() {
        TreeToTree x = new TreeToTree();
        due("31: never", x.stops(), NOTHING);
        x.tree(0, 0, 0, 0);
        Checks.park(x, "less 4 h=2;rain 9 t=0");
        due("31: 20", x.stops(), 20);
        x.go(20);
        due("31: now", x.stops(), 0);
        x.go(1);
        due("31: too late", x.stops(), NOTHING);
        TreeToTree y = new TreeToTree();
        Checks.park(y, "less 4 h>10");
        y.go(10);
        due("31: in 100", y.stops(), NOTHING);
        y.go(1);
        due("31: in 99", y.stops(), 99);
        Checks.park(y, "less 4 m<9");
        due("31: for 9 alone", y.stops(), NOTHING);
        Checks.park(y, "less 4 h>2|h=2&m>3");
        due("31: from 24 on", y.stops(), 13);
    }
}
