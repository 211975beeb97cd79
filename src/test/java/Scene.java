/** An object with something of all, all that can be seen of one, and calls that ask alone. */
final class Scene {
    private Scene() {
    }

    /** Two trees, two walkers, and an image of it all. */
    static void fill(TreeToTree x) {
        Checks.park(x, "soak 60;wait 2;rain 3 m=1;less 2 k=6");
        x.tree(6, 2, 10, 20);
        x.tree(2, 3, 15, 40);
        x.row(0, 1, 7);
        x.walker(10, 5);
        x.walker(20, 0);
        x.home(50);
        x.see(8);
        x.leg(0, 3);
        x.rule(0, 4);
        x.rule(1, 2);
        x.book(0, 0, 0);
        x.book(1, 5, 6);
        Checks.feed(x, "wait ");
        x.go(9);
        x.act(0, 2, 5);
        x.image();
    }

    /** All that can be seen, without what an image or the tape would tell. */
    static String of(TreeToTree x) {
        StringBuilder all = new StringBuilder();
        for (int what = 0; what < 5; what++) put(all, x.told(what));
        for (int what = 0; what < 8; what++) put(all, x.count(what));
        for (int i = 0; i < x.count(7); i++) put(all, x.trace(i));
        for (int tree = 0; tree < x.count(0); tree++) {
            for (int what = 0; what < 5; what++) put(all, x.of(tree, what));
            for (int n = 1; n < 6; n++) put(all, x.under(tree, n));
        }
        for (int walker = 0; walker < x.count(1); walker++) {
            put(all, x.at(walker, 0));
            put(all, x.at(walker, 1));
            put(all, x.way(walker, 0));
            put(all, x.way(walker, 1));
            put(all, x.ruled(walker, 0));
            put(all, x.ruled(walker, 1));
        }
        put(all, x.looked());
        int seen = x.see(0);
        x.see(seen);
        put(all, seen);
        return all.toString();
    }

    private static void put(StringBuilder all, long answer) {
        all.append(answer).append(' ');
    }

    /** All that is asked of promises 16 to 40 and 43. */
    static void askAll(TreeToTree x) {
        for (int what = 0; what < 3; what++) x.straight(0, what);
        for (int what = 0; what < 3; what++) x.way(0, what);
        for (int what = 0; what < 7; what++) x.driest(0, what);
        for (int what = 0; what < 7; what++) x.cheapest(0, what);
        for (int what = 0; what < 2; what++) x.stay(0, 0, what);
        x.soaked(0);
        x.dry(0);
        x.drips(0);
        x.coats(0);
        x.shared(0, 1);
        x.run(0);
        x.begin(0, 30);
        x.worth(0);
        x.worth(1);
        for (int what = 0; what < 2; what++) x.first(what);
        x.stops();
        for (int what = 0; what < 2; what++) x.stood(0, 0, what);
        x.who();
        x.odds(0, 20, 0);
        x.mean(0, 60, 1);
        for (int what = 0; what < 2; what++) x.ruled(0, what);
        x.looked();
        x.as(0, 3);
    }
}
