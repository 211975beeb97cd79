/** Sentences that belong together, and what their tests share. */
abstract class Group {
    static final int NONE = -1, BAD = -2, STATE = -3, FULL = -4, NOTHING = -5, OTHER_KIND = -6;
    static final long NO = Long.MIN_VALUE;

    private Sentences sentences;

    /** Asks all tests of this group. */
    final void ask(Sentences asked) {
        sentences = asked;
        all();
    }

    abstract void all();

    final TreeToTree says(int promise, String words) {
        return sentences.says(promise, words);
    }

    final void due(String call, long got, long want) {
        sentences.due(call, got, want);
    }

    /** The text is no park, and goes wrong at this place. */
    final void fault(String text, int place) {
        due("park() of '" + text + "'", Checks.park(new TreeToTree(), text), -10 - place);
    }

    final void good(String... texts) {
        for (String text : texts) due("park() of '" + text + "'", Checks.park(new TreeToTree(), text), 0);
    }

    static TreeToTree parked(String text) {
        TreeToTree x = new TreeToTree();
        Checks.park(x, text);
        return x;
    }

    static void go(TreeToTree x, int minutes) {
        for (int left = minutes; left > 0; left -= 60) x.go(Math.min(60, left));
    }

    /** How much it rains at a minute by a park's text. */
    final void rains(String text, int minute, int want) {
        TreeToTree x = parked(text);
        go(x, minute);
        due("told(4) by '" + text + "' at " + minute, x.told(4), want);
    }

    /** How wet it is under a tree, minute by minute. */
    final void wets(TreeToTree x, int tree, int... wants) {
        for (int n = 0; n < wants.length; n++) due("under(" + tree + ", " + n + ")", x.under(tree, n), wants[n]);
    }

    final void fraction(String call, long above, long below, long wantAbove, long wantBelow) {
        due(call + " above", above, wantAbove);
        due(call + " below", below, wantBelow);
    }
}
