import java.util.LinkedHashMap;
import java.util.Map;
import java.util.function.ToLongFunction;

/** What the document says of all refusals, and of how many calls an object answers. */
final class RefusalSentences extends Group {
    private static final String REFUSALS = "REFUSALS, of several the first one told:";

    private interface Calls extends ToLongFunction<TreeToTree> {
    }

    @Override
    void all() {
        refused("NONE there is no such TREE, WALKER, KIND, what, part, k, i;", NONE, none());
        refused("BAD a number is not as told, or two are one;", BAD, bad());
        refused(REFUSALS, NONE, firstNone());
        refused(REFUSALS, BAD, firstBad());
        stateAndFull();
        manyCalls();
    }

    private void refused(String words, int want, Map<String, Calls> calls) {
        TreeToTree x = says(1, words);
        Scene.fill(x);
        for (String call : calls.keySet()) due(call, calls.get(call).applyAsLong(x), want);

        x = says(1, "They change nothing.");
        Scene.fill(x);
        String before = Scene.of(x);
        for (Calls call : calls.values()) call.applyAsLong(x);
        due("all is as before", Scene.of(x).equals(before) ? 1 : 0, 1);
        x.undo();
        due("the image is as before", Scene.of(x).equals(before) ? 1 : 0, 1);
    }

    private static Map<String, Calls> none() {
        Map<String, Calls> calls = new LinkedHashMap<>();
        calls.put("tree(7, 0, 0, 0)", x -> x.tree(7, 0, 0, 0));
        calls.put("of(2, 0)", x -> x.of(2, 0));
        calls.put("of(0, 5)", x -> x.of(0, 5));
        calls.put("hold(2, 0)", x -> x.hold(2, 0));
        calls.put("row(2, 0, 0)", x -> x.row(2, 0, 0));
        calls.put("row(0, 4, 0)", x -> x.row(0, 4, 0));
        calls.put("at(2, 0)", x -> x.at(2, 0));
        calls.put("at(0, 2)", x -> x.at(0, 2));
        calls.put("gear(2, 1, 0)", x -> x.gear(2, 1, 0));
        calls.put("told(5)", x -> x.told(5));
        calls.put("rain(2, 0)", x -> x.rain(2, 0));
        calls.put("under(2, 0)", x -> x.under(2, 0));
        calls.put("straight(2, 0)", x -> x.straight(2, 0));
        calls.put("straight(0, 3)", x -> x.straight(0, 3));
        calls.put("leg(2, 0)", x -> x.leg(2, 0));
        calls.put("way(2, 0)", x -> x.way(2, 0));
        calls.put("way(0, 3)", x -> x.way(0, 3));
        calls.put("driest(2, 0)", x -> x.driest(2, 0));
        calls.put("driest(0, 7)", x -> x.driest(0, 7));
        calls.put("cheapest(2, 0)", x -> x.cheapest(2, 0));
        calls.put("cheapest(0, 7)", x -> x.cheapest(0, 7));
        calls.put("stay(2, 0, 0)", x -> x.stay(2, 0, 0));
        calls.put("stay(0, 2, 0)", x -> x.stay(0, 2, 0));
        calls.put("stay(0, 0, 2)", x -> x.stay(0, 0, 2));
        calls.put("soaked(2)", x -> x.soaked(2));
        calls.put("dry(2)", x -> x.dry(2));
        calls.put("drips(2)", x -> x.drips(2));
        calls.put("coats(2)", x -> x.coats(2));
        calls.put("shared(2, 0)", x -> x.shared(2, 0));
        calls.put("shared(0, 2)", x -> x.shared(0, 2));
        calls.put("run(2)", x -> x.run(2));
        calls.put("begin(2, 0)", x -> x.begin(2, 0));
        calls.put("worth(2)", x -> x.worth(2));
        calls.put("first(2)", x -> x.first(2));
        calls.put("stood(2, 0, 0)", x -> x.stood(2, 0, 0));
        calls.put("stood(0, 2, 0)", x -> x.stood(0, 2, 0));
        calls.put("stood(0, 0, 2)", x -> x.stood(0, 0, 2));
        calls.put("rule(2, 0)", x -> x.rule(2, 0));
        calls.put("ruled(2, 0)", x -> x.ruled(2, 0));
        calls.put("ruled(0, 2)", x -> x.ruled(0, 2));
        calls.put("book(2, 0, 0)", x -> x.book(2, 0, 0));
        calls.put("trace(4)", x -> x.trace(4 + x.count(7)));
        calls.put("as(2, 0)", x -> x.as(2, 0));
        calls.put("as(0, 7)", x -> x.as(0, 7));
        calls.put("count(8)", x -> x.count(8));
        return calls;
    }

    private static Map<String, Calls> bad() {
        Map<String, Calls> calls = new LinkedHashMap<>();
        calls.put("feed(128)", x -> x.feed(128));
        calls.put("tree(0, 10, 0, 0)", x -> x.tree(0, 10, 0, 0));
        calls.put("tree(0, 0, 100, 0)", x -> x.tree(0, 0, 100, 0));
        calls.put("tree(0, 0, 0, 100)", x -> x.tree(0, 0, 0, 100));
        calls.put("hold(0, 100)", x -> x.hold(0, 100));
        calls.put("row(0, 0, 10)", x -> x.row(0, 0, 10));
        calls.put("walker(0, 0)", x -> x.walker(0, 0));
        calls.put("walker(1, 100)", x -> x.walker(1, 100));
        calls.put("gear(0, 0, 0)", x -> x.gear(0, 0, 0));
        calls.put("gear(0, 1, 100)", x -> x.gear(0, 1, 100));
        calls.put("home(100)", x -> x.home(100));
        calls.put("go(61)", x -> x.go(61));
        calls.put("rain(-1, 61)", x -> x.rain(-1, 61));
        calls.put("under(0, 61)", x -> x.under(0, 61));
        calls.put("leg(0, 21)", x -> x.leg(0, 21));
        calls.put("leg(-1, 1)", x -> x.leg(-1, 1));
        calls.put("shared(0, 0)", x -> x.shared(0, 0));
        calls.put("begin(0, 31)", x -> x.begin(0, 31));
        calls.put("see(100)", x -> x.see(100));
        calls.put("rule(0, 21)", x -> x.rule(0, 21));
        calls.put("book(0, 1000, 0)", x -> x.book(0, 1000, 0));
        calls.put("book(0, 0, 100)", x -> x.book(0, 0, 100));
        return calls;
    }

    private static Map<String, Calls> firstNone() {
        Map<String, Calls> calls = new LinkedHashMap<>();
        calls.put("tree(7, 10, 100, 100)", x -> x.tree(7, 10, 100, 100));
        calls.put("hold(2, 100)", x -> x.hold(2, 100));
        calls.put("row(2, 4, 10)", x -> x.row(2, 4, 10));
        calls.put("row(0, 4, 10)", x -> x.row(0, 4, 10));
        calls.put("row(1, 4, 10)", x -> x.row(1, 4, 10));
        calls.put("gear(2, 0, 100)", x -> x.gear(2, 0, 100));
        calls.put("rain(2, 61)", x -> x.rain(2, 61));
        calls.put("under(2, 61)", x -> x.under(2, 61));
        calls.put("leg(2, 21)", x -> x.leg(2, 21));
        calls.put("shared(2, 2)", x -> x.shared(2, 2));
        calls.put("begin(2, 31)", x -> x.begin(2, 31));
        calls.put("rule(2, 21)", x -> x.rule(2, 21));
        calls.put("book(2, 1000, 100)", x -> x.book(2, 1000, 100));
        return calls;
    }

    private static Map<String, Calls> firstBad() {
        Map<String, Calls> calls = new LinkedHashMap<>();
        calls.put("row(1, 0, 10), of another kind", x -> x.row(1, 0, 10));
        calls.put("walker(0, 100)", x -> x.walker(0, 100));
        calls.put("tree(0, 10, 100, 100)", x -> x.tree(0, 10, 100, 100));
        calls.put("book(0, 1000, 100)", x -> x.book(0, 1000, 100));
        return calls;
    }

    /** Full of all that there can be, and THE WAY ends at HOME. */
    private static TreeToTree full(boolean endsAtHome) {
        TreeToTree x = new TreeToTree();
        for (int i = 0; i < 5; i++) Checks.park(x, "wait 1");
        for (int kind = 0; kind < 6; kind++) x.tree(kind, 1, 1, 1);
        for (int i = 0; i < 5; i++) x.walker(1, 1);
        for (int i = 0; i < 3; i++) x.leg(0, 0);
        x.leg(endsAtHome ? -1 : 0, 0);
        for (int i = 0; i < 4; i++) x.rule(0, 0);
        for (int i = 0; i < 8; i++) x.book(0, 0, 0);
        for (int i = 0; i < 100; i++) x.feed('x');
        for (int i = 0; i < 16; i++) x.go(60);
        x.go(39);
        return x;
    }

    private void stateAndFull() {
        says(1, "STATE as told; FULL.");
        TreeToTree x = full(true);
        String before = Scene.of(x);
        due("go", x.go(1), STATE);
        due("row", x.row(0, 0, 0), STATE);
        due("leg", x.leg(0, 0), STATE);
        due("undo", x.undo(), STATE);
        due("feed", x.feed('x'), FULL);
        due("park", x.park(), FULL);
        due("tree", x.tree(0, 0, 0, 0), FULL);
        due("walker", x.walker(1, 0), FULL);
        due("rule", x.rule(0, 0), FULL);
        due("book", x.book(0, 0, 0), FULL);
        due("all is as before", Scene.of(x).equals(before) ? 1 : 0, 1);
        due("leg in the other", full(false).leg(0, 0), FULL);

        says(1, REFUSALS);
        x = full(true);
        due("go", x.go(61), BAD);
        due("leg, none", x.leg(6, 21), NONE);
        due("leg, bad", x.leg(0, 21), BAD);
        due("leg, state", x.leg(-1, 0), STATE);
        due("feed", x.feed(128), BAD);
        due("tree, none", x.tree(7, 10, 0, 0), NONE);
        due("tree, bad", x.tree(0, 10, 0, 0), BAD);
        due("walker", x.walker(0, 0), BAD);
        due("rule, none", x.rule(6, 21), NONE);
        due("rule, bad", x.rule(0, 21), BAD);
        due("book, none", x.book(6, 1000, 0), NONE);
        due("book, bad", x.book(0, 1000, 0), BAD);
    }

    private void manyCalls() {
        TreeToTree x = says(1, "An object is used for at most 512 calls after it has been made;");
        x.tree(0, 0, 99, 0);
        x.walker(20, 0);
        x.walker(10, 0);
        int want = x.worth(0);
        for (int call = 5; call <= 512; call++) due("call " + call, x.worth(0), want);
        x = new TreeToTree();
        for (int call = 1; call <= 99; call++) due("call " + call, x.feed('x'), call);
        for (int call = 100; call <= 511; call++) due("call " + call, x.feed(128), BAD);
        due("call 512", x.feed('x'), 100);
        x = new TreeToTree();
        for (int call = 1; call <= 256; call++) {
            due("an image", x.image(), Math.min(call - 1, 6));
            due("a tree", x.tree(call % 7, 0, 0, 0), call <= 6 ? call - 1 : FULL);
        }
    }
}
