/** Long runs of calls, made by a counter of its own, asked of the program and of the model. */
public final class ModelTest {
    private static final String[] ASKING = {
        "of", "at", "told", "rain", "under", "straight", "way", "driest", "cheapest", "stay",
        "soaked", "dry", "drips", "coats", "shared", "run", "begin", "worth", "first", "stops",
        "stood", "who", "odds", "mean", "ruled", "looked", "act", "trace", "as", "count"};
    private static final String[] CHANGING = {
        "feed", "park", "tree", "hold", "row", "walker", "gear", "home", "go", "leg", "see",
        "rule", "book", "image", "undo", "text", "text"};

    private final Checks checks = new Checks("ModelTest");
    private long seed;
    private TreeToTree x;
    private ModelCalls model;
    private StringBuilder calls;

    /** What an object answers behind its 512th call is free. */
    private int left;

    public static void main(String[] args) {
        ModelTest test = new ModelTest();
        for (int run = 0; run < 150; run++) test.run(run);
        test.checks.end();
    }

    private int next(int below) {
        seed = seed * 6364136223846793005L + 1442695040888963407L;
        return (int) ((seed >>> 33) % below);
    }

    private void run(int number) {
        seed = number * 7919L + 17;
        for (int i = 0; i < 5; i++) next(2);
        x = new TreeToTree();
        model = new ModelCalls();
        calls = new StringBuilder();
        left = 512;
        int plants = next(7);
        int comers = next(6);
        for (int i = 0; i < plants; i++) ask("tree", next(7), next(10), amount(), next(100));
        for (int i = 0; i < comers; i++) ask("walker", 1 + next(20), amount(), 0, 0);
        if (next(3) > 0) tellPark();
        if (next(4) == 0) goFar();
        for (int i = 0; i < 120; i++) {
            String name = next(3) > 0 ? ASKING[next(ASKING.length)] : CHANGING[next(CHANGING.length)];
            if (name.equals("text")) {
                if (next(3) == 0) tellPark();
            } else if (!name.equals("worth") || next(3) == 0) {
                askAny(name);
            }
        }
    }

    private void goFar() {
        int times = next(20);
        for (int i = 0; i < times; i++) ask("go", next(61), 0, 0, 0);
    }

    private int amount() {
        return next(2) == 0 ? next(100) : next(20);
    }

    private void askAny(String name) {
        int a = next(8) - 1;
        int b = next(9) - 1;
        int c = next(9) - 1;
        int d = amount();
        if (next(6) > 0) {
            switch (name) {
                case "feed" -> a = next(130) - 1;
                case "walker" -> { a = 1 + next(20); b = amount(); }
                case "tree" -> { a = next(8); b = next(10); c = amount(); }
                case "hold" -> b = amount();
                case "row" -> { b = next(5); c = next(10); }
                case "gear" -> { b = 1 + next(20); c = amount(); }
                case "home", "see" -> a = amount();
                case "go", "rain", "under" -> { a = name.equals("go") ? next(62) : a; b = next(62); }
                case "leg" -> b = next(12) == 0 ? -1 : next(22);
                case "begin" -> b = next(32);
                case "odds", "mean" -> { b = amount(); c = next(2); }
                case "stay", "stood" -> c = next(2);
                case "rule" -> b = next(12) == 0 ? -1 : next(22);
                case "book" -> { a = next(12) == 0 ? -1 : next(7); b = next(200); c = next(12); }
                case "act" -> { b = next(3); c = next(2) == 0 ? next(1000) : next(Integer.MAX_VALUE); }
                default -> { }
            }
        } else if (next(3) == 0) {
            a = strange();
        } else {
            b = strange();
            c = strange();
        }
        ask(name, a, b, c, d);
    }

    private int strange() {
        int[] numbers = {Integer.MIN_VALUE, Integer.MAX_VALUE, -1, -2, 0, 1, 5, 6, 7, 8, 20, 21, 30, 31,
            60, 61, 99, 100, 127, 128, 999, 1000};
        return numbers[next(numbers.length)];
    }

    private void tellPark() {
        String text = clauses();
        if (next(4) == 0 && text.length() > 0) text = spoiled(text);
        for (int i = 0; i < text.length(); i++) ask("feed", text.charAt(i), 0, 0, 0);
        ask("park", 0, 0, 0, 0);
    }

    private String spoiled(String text) {
        int at = next(text.length());
        String signs = ";;;  ()!!&|<=>mhtkv0123459rainlessoakwt";
        char put = signs.charAt(next(signs.length()));
        return switch (next(4)) {
            case 0 -> text.substring(0, at);
            case 1 -> text.substring(0, at) + text.substring(at + 1);
            case 2 -> text.substring(0, at) + put + text.substring(at);
            default -> text.substring(0, at) + put + text.substring(at + 1);
        };
    }

    private String clauses() {
        StringBuilder text = new StringBuilder();
        int many = next(6) == 0 ? 9 + next(3) : 1 + next(5);
        for (int i = 0; i < many; i++) {
            if (i > 0) text.append(';');
            int n = next(3) == 0 ? next(100) : next(10);
            switch (many > 6 ? next(3) / 2 * 2 : next(6)) {
                case 0 -> text.append("soak ").append(n);
                case 1 -> text.append("wait ").append(n);
                case 2, 3 -> text.append("rain ").append(n).append(' ').append(choice(many > 6 ? 3 : 0));
                default -> text.append("less ").append(n).append(' ').append(choice(0));
            }
        }
        return text.toString();
    }

    private String choice(int depth) {
        StringBuilder text = new StringBuilder(part(depth));
        for (int i = next(3) - depth; i > 0; i--) text.append(next(2) == 0 ? '&' : '|').append(part(depth));
        return text.toString();
    }

    private String part(int depth) {
        int which = depth > 5 ? 9 : next(6);
        if (which == 0) return "!" + part(depth + 1);
        if (which == 1) return "(" + choice(depth + 1) + ")";
        char field = "mmhhtkv".charAt(next(7));
        int n = next(6) == 0 ? next(100) : next(10);
        return field + "" + "<=>".charAt(next(3)) + n;
    }

    private void ask(String name, int a, int b, int c, int d) {
        if (left == 0) return;
        left--;
        String call = name + "(" + a + ", " + b + ", " + c + ", " + d + ")";
        calls.append(call).append(' ');
        long got = answer(name, a, b, c, d);
        long want = model.call(name, a, b, c, d);
        if (got != want) System.out.println(calls);
        checks.due(call, got, want);
        if (got != want) checks.end();
    }

    private long answer(String name, int a, int b, int c, int d) {
        return switch (name) {
            case "feed" -> x.feed(a);
            case "park" -> x.park();
            case "tree" -> x.tree(a, b, c, d);
            case "of" -> x.of(a, b);
            case "hold" -> x.hold(a, b);
            case "row" -> x.row(a, b, c);
            case "walker" -> x.walker(a, b);
            case "at" -> x.at(a, b);
            case "gear" -> x.gear(a, b, c);
            case "home" -> x.home(a);
            case "told" -> x.told(a);
            case "go" -> x.go(a);
            case "rain" -> x.rain(a, b);
            case "under" -> x.under(a, b);
            case "straight" -> x.straight(a, b);
            case "leg" -> x.leg(a, b);
            case "way" -> x.way(a, b);
            case "driest" -> x.driest(a, b);
            case "cheapest" -> x.cheapest(a, b);
            case "stay" -> x.stay(a, b, c);
            case "soaked" -> x.soaked(a);
            case "dry" -> x.dry(a);
            case "drips" -> x.drips(a);
            default -> answerMore(name, a, b, c);
        };
    }

    private long answerMore(String name, int a, int b, int c) {
        return switch (name) {
            case "coats" -> x.coats(a);
            case "shared" -> x.shared(a, b);
            case "run" -> x.run(a);
            case "begin" -> x.begin(a, b);
            case "worth" -> x.worth(a);
            case "first" -> x.first(a);
            case "stops" -> x.stops();
            case "see" -> x.see(a);
            case "stood" -> x.stood(a, b, c);
            case "who" -> x.who();
            case "odds" -> x.odds(a, b, c);
            case "mean" -> x.mean(a, b, c);
            case "rule" -> x.rule(a, b);
            case "ruled" -> x.ruled(a, b);
            case "book" -> x.book(a, b, c);
            case "looked" -> x.looked();
            case "act" -> x.act(a, b, c);
            case "trace" -> x.trace(a);
            case "as" -> x.as(a, b);
            case "image" -> x.image();
            case "undo" -> x.undo();
            case "count" -> x.count(a);
            default -> throw new IllegalArgumentException(name);
        };
    }
}
