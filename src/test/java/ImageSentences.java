import java.util.LinkedHashMap;
import java.util.Map;
import java.util.function.Consumer;

/** Promises 44 to 46: the image, what it holds, how many there are. */
final class ImageSentences extends Group {
    @Override
    void all() {
        taking();
        holdsAll();
        parksAndTrees();
        notHeld();
        counts();
    }

    private void taking() {
        TreeToTree x = says(44, "THE IMAGE is taken: how many TREES there are.");
        due("none", x.image(), 0);
        for (int i = 1; i <= 6; i++) {
            x.tree(0, 0, 0, 0);
            due("image of " + i, x.image(), i);
        }

        x = says(45, "All is as THE IMAGE: how many TREES.");
        x.image();
        for (int i = 0; i < 6; i++) x.tree(i, 0, 0, 0);
        due("none", x.undo(), 0);
        due("count(0)", x.count(0), 0);
        x.tree(1, 2, 3, 4);
        x.image();
        x.tree(5, 6, 7, 8);
        due("one", x.undo(), 1);
        due("of the first", x.of(0, 3), 4);
        due("no second", x.of(1, 0), NONE);
        due("one again", x.undo(), 1);

        x = says(45, "STATE: there is none.");
        x.tree(0, 0, 0, 0);
        due("no image", x.undo(), STATE);
        due("count(0)", x.count(0), 1);
        x.image();
        due("one", x.undo(), 1);
        due("one for ever", x.undo(), 1);
    }

    /** Each change is to be seen, and is gone behind undo(). */
    private void holdsAll() {
        Map<String, Consumer<TreeToTree>> changes = new LinkedHashMap<>();
        changes.put("minute", x -> x.go(1));
        changes.put("home", x -> x.home(51));
        changes.put("seen", x -> x.see(9));
        changes.put("tape", x -> x.feed('7'));
        changes.put("tape taken by a fault", TreeToTree::park);
        changes.put("park", x -> Checks.park(x, "5;soak 9;wait 7;rain 9 m>0"));
        changes.put("tree", x -> x.tree(0, 1, 2, 3));
        changes.put("holds", x -> x.hold(0, 3));
        changes.put("holds of another", x -> x.hold(1, 99));
        changes.put("row", x -> x.row(0, 3, 9));
        changes.put("walker", x -> x.walker(3, 3));
        changes.put("pace", x -> x.gear(0, 11, 5));
        changes.put("coat", x -> x.gear(1, 20, 1));
        changes.put("leg", x -> x.leg(1, 5));
        changes.put("leg home", x -> x.leg(-1, 0));
        changes.put("no legs", x -> x.leg(0, -1));
        changes.put("rule", x -> x.rule(1, 20));
        changes.put("no rule", x -> x.rule(0, -1));
        changes.put("book", x -> x.book(0, 7, 8));
        changes.put("no book", x -> x.book(-1, 0, 0));
        for (String name : changes.keySet()) {
            TreeToTree x = says(45, "THE IMAGE: all that there is");
            Scene.fill(x);
            String before = Scene.of(x);
            changes.get(name).accept(x);
            due(name + " changes what is seen", Scene.of(x).equals(before) ? 0 : 1, 1);
            due(name + ": undo", x.undo(), 2);
            due(name + " is as it was", Scene.of(x).equals(before) ? 1 : 0, 1);
        }
        TreeToTree x = says(45, "THE IMAGE: all that there is");
        Scene.fill(x);
        String before = Scene.of(x);
        for (String name : changes.keySet()) changes.get(name).accept(x);
        x.undo();
        due("all of them at once", Scene.of(x).equals(before) ? 1 : 0, 1);
        x.park();
        x.feed('x');
        x.undo();
        due("the tape's signs", Checks.park(x, "77"), 1);
        due("the tape's number", x.told(2), 77);
    }

    private void parksAndTrees() {
        TreeToTree x = says(45, "All is as THE IMAGE:");
        Checks.park(x, "soak 50;wait 3;rain 1 m<99");
        x.tree(0, 0, 0, 0);
        x.image();
        x.tree(1, 5, 9, 9);
        Checks.park(x, "rain 2 m<99;rain 3 t=1");
        due("rain of the second", x.under(0, 0), 6);
        due("rain at the second", x.rain(1, 0), 9);
        due("undo", x.undo(), 1);
        due("rain as it was", x.under(0, 0), 5);
        due("soak as it was", x.told(1), 50);
        due("wait as it was", x.told(2), 3);
        due("one park", x.count(2), 1);
        due("another second tree", x.tree(2, 7, 1, 2), 1);
        due("its kind", x.of(1, 0), 2);
        due("its rain", x.rain(1, 0), 5);
        due("another second park", Checks.park(x, "soak 9"), 1);
        due("it holds", x.told(1), 9);
        due("back", x.undo(), 1);
        due("the first holds", x.told(1), 50);
        due("the first's rain", x.rain(0, 60), 5);

        x = says(45, "All is as THE IMAGE:");
        x.image();
        Checks.park(x, "soak 9;wait 5;rain 8 m<9");
        due("undo", x.undo(), 0);
        due("no park: soak", x.told(1), 99);
        due("no park: wait", x.told(2), 1);
        due("no park: rain", x.told(4), 4);
        for (int i = 0; i < 5; i++) due("park " + i, Checks.park(x, "soak " + i), i);
        due("full", x.park(), FULL);
        x.undo();
        due("the first park again", Checks.park(x, "soak 3"), 0);
        x.image();
        Checks.park(x, "soak ");
        x.undo();
        due("behind a fault", x.told(1), 3);

        x = says(45, "All is as THE IMAGE:");
        Checks.park(x, "rain 3 k=1;rain 6 v=8;less 1 t=0");
        x.image();
        x.tree(1, 0, 0, 0);
        due("rain at a thick one", x.rain(0, 0), 6);
        x.undo();
        due("no tree", x.rain(0, 0), NONE);
        x.tree(2, 8, 0, 0);
        due("rain at another in its stead", x.rain(0, 0), 9);

        x = says(45, "All is as THE IMAGE:");
        x.tree(6, 0, 0, 0);
        x.row(0, 0, 5);
        x.image();
        x.row(0, 0, 6);
        x.hold(0, 50);
        x.image();
        x.row(0, 0, 7);
        x.hold(0, 60);
        x.undo();
        due("row of the latest image", x.row(0, 0, 6), 6);
        due("holds of the latest image", x.hold(0, 50), 50);
    }

    private void notHeld() {
        TreeToTree x = says(45, "(but THE IMAGE and THE TRACE).");
        x.image();
        x.tree(3, 1, 0, 0);
        x.image();
        x.tree(4, 1, 0, 0);
        due("to the latest image", x.undo(), 1);
        due("and not to one that was in it", x.undo(), 1);
        x.act(0, 0, 1);
        x.image();
        x.act(0, 2, 5);
        x.undo();
        due("the trace stays", x.trace(0), 31);
        due("its size stays", x.count(7), 4);
        x.act(0, 2, 5);
        x.image();
        x.act(9, 9, 9);
        x.undo();
        due("no trace stays", x.trace(0), NONE);
        due("its size 0 stays", x.count(7), 0);
    }

    private void counts() {
        TreeToTree x = says(46, "0 TREES, 1 WALKERS, 2 PARKS, 3 legs of THE WAY, 4 of the RULE, 5 rows of BOOK, 6 signs of THE TAPE,");
        for (int what = 0; what < 7; what++) due("none, " + what, x.count(what), 0);
        for (int i = 0; i < 6; i++) x.tree(i, 0, 0, 0);
        for (int i = 0; i < 5; i++) x.walker(1, 1);
        for (int i = 0; i < 5; i++) Checks.park(x, "soak 1");
        for (int i = 0; i < 4; i++) x.leg(0, 0);
        for (int i = 0; i < 4; i++) x.rule(0, 0);
        for (int i = 0; i < 8; i++) x.book(0, 0, 0);
        for (int i = 0; i < 100; i++) x.feed('1');
        int[] most = {6, 5, 5, 4, 4, 8, 100};
        for (int what = 0; what < 7; what++) due("most, " + what, x.count(what), most[what]);
        x = new TreeToTree();
        Scene.fill(x);
        int[] some = {2, 2, 1, 1, 2, 2, 5};
        for (int what = 0; what < 7; what++) due("some, " + what, x.count(what), some[what]);

        x = says(46, "7 bodies that ran in the latest act() (all, kept or not).");
        due("no act", x.count(7), 0);
        x.tree(4, 0, 0, 0);
        x.act(0, 2, 0);
        due("7", x.count(7), 7);
        x.act(0, 0, 0);
        due("2", x.count(7), 2);
        x.act(1, 0, 0);
        due("no such tree", x.count(7), 0);

        x = says(46, "NONE.");
        for (int what : new int[] {-1, 8, Integer.MIN_VALUE, Integer.MAX_VALUE}) {
            due("what " + what, x.count(what), NONE);
        }
    }
}
