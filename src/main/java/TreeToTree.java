/**
 * A park in rain: trees that keep one dry for a while, walkers who go home from tree to tree, and
 * what can be asked about how wet they get. README.md says how it is used.
 */
public final class TreeToTree {
    public static final int NONE = -1, BAD = -2, STATE = -3, FULL = -4;
    public static final long NO = Long.MIN_VALUE;

    private static final int NOTHING = -5, OTHER_KIND = -6, FAULTY = -10;

    private static final int MOST_TREES = 6, MOST_WALKERS = 5, MOST_PARKS = 5, MOST_LEGS = 4;
    private static final int MOST_RULES = 4, MOST_ENTRIES = 8, MOST_SIGNS = 100, MOST_BODIES = 20;

    private static final int LAST_MINUTE = 999, LONGEST_LOOK = 60, LONGEST_WAIT = 20;
    private static final int FASTEST = 20, LARGEST = 99;

    /** What a park's tests take for t, k and v where no tree stands. */
    private static final int NO_TREE = 9;

    /** Above 999 + 5 walks of 99 minutes + 4 waits of 20, so that no way goes on behind it. */
    private static final int HORIZON = 1600;

    private static final int KIND_TREE = 0, KIND_THICK = 1, KIND_THIN = 2, KIND_LATE = 3;
    private static final int KIND_HOLLOW = 4, KIND_BROAD = 5, KIND_TOLD = 6;

    private static final int ACT_HOLDS = 0, ACT_DRIPS = 1, ACT_TELLS = 2;

    /** The rows of the single numbers. */
    private static final int MINUTE = 0, HOME = 1, SEEN = 2, PARK_COUNT = 3, TREE_COUNT = 4;

    /** The columns of a walker's row. */
    private static final int PACE = 0, COAT = 1;

    /** What can be asked about how a way ends. */
    private static final int WET = 0, MINUTES = 1, COST = 2;

    private final Rows numbers = new Rows(5, 1);
    private final Rows tape = new Rows(MOST_SIGNS, 1);
    private final Rows walkers = new Rows(MOST_WALKERS, 2);
    private final Rows legs = new Rows(MOST_LEGS, 2);
    private final Rows rules = new Rows(MOST_RULES, 2);
    private final Rows entries = new Rows(MOST_ENTRIES, 3);

    /** Not in the image. No act runs more than 7 bodies, so that this never is too short. */
    private final Rows bodies = new Rows(MOST_BODIES, 1);

    private final Tree[] trees = new Tree[MOST_TREES];
    private final Spot[] spots = new Spot[MOST_TREES];
    private final Spot grass;

    /** Slot 0 stands for no park, slot n + 1 for park n. */
    private final Park[] parks = new Park[MOST_PARKS + 1];
    private Park held;

    private boolean imaged;

    /** Made once and used again, since a search tries thousands of ways. */
    private final Trip walked, onward, homeward;

    /** The best way found: its measure, minutes, how many trees, then each with its waiting. */
    private final int[] best = new int[7];

    public TreeToTree() {
        held = new Park();
        parks[0] = held;
        for (int i = 1; i < parks.length; i++) parks[i] = new Park();
        grass = new Spot(held);
        for (int i = 0; i < spots.length; i++) spots[i] = new Spot(held);
        walked = new Trip(grass);
        onward = new Trip(grass);
        homeward = new Trip(grass);
        for (int which = MINUTE; which <= TREE_COUNT; which++) numbers.add(0, 0, 0);
        numbers.set(HOME, 0, 60);
    }

    // ---- parks, trees, walkers

    public int feed(int sign) {
        if (!within(sign, 0, 127)) return BAD;
        if (tape.full()) return FULL;
        tape.add(sign, 0, 0);
        return tape.size;
    }

    public int park() {
        int count = number(PARK_COUNT);
        Park next = parkInSlot(count + 1);
        if (next == null) return FULL;
        int fault = next.read(tape);
        tape.clear();
        if (fault >= 0) return FAULTY - fault;
        setNumber(PARK_COUNT, count + 1);
        followNewestPark();
        return count;
    }

    public int tree(int kind, int v, int holds, int place) {
        if (!within(kind, KIND_TREE, KIND_TOLD)) return NONE;
        if (!within(v, 0, 9) || !within(holds, 0, LARGEST)) return BAD;
        if (!within(place, 0, LARGEST)) return BAD;
        int count = number(TREE_COUNT);
        if (!within(count, 0, Math.min(trees.length, spots.length) - 1)) return FULL;
        Spot spot = spots[count];
        if (spot == null) return FULL;
        spot.become(count, kind, v, place);
        trees[count] = planted(spot, holds);
        setNumber(TREE_COUNT, count + 1);
        return count;
    }

    public int of(int tree, int what) {
        Tree asked = treeAt(tree);
        if (asked == null) return NONE;
        switch (what) {
            case 0: return asked.spot.kind;
            case 1: return asked.spot.v;
            case 2: return asked.holds;
            case 3: return asked.spot.place;
            case 4: return asked.wetAt(now());
            default: return NONE;
        }
    }

    public int hold(int tree, int n) {
        Tree changed = treeAt(tree);
        if (changed == null) return NONE;
        if (!within(n, 0, LARGEST)) return BAD;
        int before = changed.holds;
        changed.holds = n;
        return before;
    }

    public int row(int tree, int k, int n) {
        Tree changed = treeAt(tree);
        if (changed == null || !within(k, 0, 3)) return NONE;
        if (!within(n, 0, 9)) return BAD;
        if (changed instanceof Told told) return told.setMore(k, n);
        return STATE;
    }

    public int walker(int pace, int coat) {
        if (!within(pace, 1, FASTEST) || !within(coat, 0, LARGEST)) return BAD;
        if (walkers.full()) return FULL;
        return walkers.add(pace, coat, 0);
    }

    public int at(int walker, int what) {
        if (!walkers.has(walker) || !within(what, PACE, COAT)) return NONE;
        return walkers.cell(walker, what);
    }

    public int gear(int walker, int pace, int coat) {
        if (!walkers.has(walker)) return NONE;
        if (!within(pace, 1, FASTEST) || !within(coat, 0, LARGEST)) return BAD;
        int before = paceOf(walker);
        walkers.set(walker, PACE, pace);
        walkers.set(walker, COAT, coat);
        return before;
    }

    public int home(int place) {
        if (!within(place, 0, LARGEST)) return BAD;
        return setNumber(HOME, place);
    }

    public int told(int what) {
        switch (what) {
            case 0: return now();
            case 1: return held.soak;
            case 2: return held.waitCost;
            case 3: return number(HOME);
            case 4: return grass.rainAt(now());
            default: return NONE;
        }
    }

    public int go(int n) {
        if (!within(n, 0, LONGEST_LOOK)) return BAD;
        int then = now() + n;
        if (then > LAST_MINUTE) return STATE;
        setNumber(MINUTE, then);
        return then;
    }

    public int rain(int tree, int n) {
        Tree asked = treeAt(tree);
        if (asked == null && tree != -1) return NONE;
        if (!within(n, 0, LONGEST_LOOK)) return BAD;
        Spot spot = asked == null ? grass : asked.spot;
        return spot.rainAt(now() + n);
    }

    public int under(int tree, int n) {
        Tree asked = treeAt(tree);
        if (asked == null) return NONE;
        if (!within(n, 0, LONGEST_LOOK)) return BAD;
        return asked.wetAt(now() + n);
    }

    // ---- ways

    public int straight(int walker, int what) {
        if (!walkers.has(walker) || !within(what, WET, COST)) return NONE;
        setOut(walked, walker);
        walked.walk(number(HOME));
        return outcome(walked, walker, what);
    }

    public int leg(int tree, int wait) {
        if (wait == -1) {
            legs.clear();
            return 0;
        }
        if (treeAt(tree) == null && tree != -1) return NONE;
        if (!within(wait, 0, tree == -1 ? 0 : LONGEST_WAIT)) return BAD;
        if (legs.size > 0 && legs.cell(legs.size - 1, 0) == -1) return STATE;
        if (legs.full()) return FULL;
        legs.add(tree, wait, 0);
        return legs.size;
    }

    public int way(int walker, int what) {
        if (!walkers.has(walker) || !within(what, WET, COST)) return NONE;
        setOut(walked, walker);
        for (int i = 0; i < legs.size; i++) {
            Tree shelter = treeAt(legs.cell(i, 0));
            if (shelter != null) walked.visit(shelter, legs.cell(i, 1));
        }
        walked.walk(number(HOME));
        return outcome(walked, walker, what);
    }

    public int driest(int walker, int what) {
        if (!walkers.has(walker) || !within(what, 0, best.length - 1)) return NONE;
        search(walker, WET, -1);
        return best[what];
    }

    public int cheapest(int walker, int what) {
        if (!walkers.has(walker) || !within(what, 0, best.length - 1)) return NONE;
        search(walker, COST, -1);
        return best[what];
    }

    public int stay(int walker, int tree, int what) {
        Tree shelter = treeAt(tree);
        if (!walkers.has(walker) || shelter == null || !within(what, 0, 1)) return NONE;
        int waiting = 0;
        int least = Integer.MAX_VALUE;
        for (int n = 0; n <= LONGEST_WAIT; n++) {
            int cost = visited(walker, shelter, n, COST);
            if (cost < least) {
                least = cost;
                waiting = n;
            }
        }
        return what == 0 ? waiting : least;
    }

    public int soaked(int walker) {
        if (!walkers.has(walker)) return NONE;
        for (int n = 0; n <= LONGEST_LOOK; n++) {
            int got = grass.ahead(now() + n) - grass.ahead(now());
            if (wetBy(got, coatOf(walker)) == held.soak) return n;
        }
        return NOTHING;
    }

    public int dry(int tree) {
        Tree shelter = treeAt(tree);
        if (shelter == null) return NONE;
        for (int n = 0; n <= LONGEST_LOOK; n++) {
            if (shelter.wetAt(now() + n) > 0) return n;
        }
        return NOTHING;
    }

    public int drips(int tree) {
        Tree shelter = treeAt(tree);
        if (shelter == null) return NONE;
        int minutes = 0;
        for (int n = 0; n < LONGEST_LOOK; n++) {
            int then = now() + n;
            if (shelter.spot.rainAt(then) == 0 && shelter.wetAt(then) > 0) minutes++;
        }
        return minutes;
    }

    // ---- coats, paces, beginnings

    public int coats(int walker) {
        if (!walkers.has(walker)) return NONE;
        for (int coat = 0; coat <= LARGEST; coat++) {
            if (wetStraight(paceOf(walker), coat, 0) == 0) return coat;
        }
        return NOTHING;
    }

    public int shared(int one, int other) {
        if (!walkers.has(one) || !walkers.has(other)) return NONE;
        if (one == other) return BAD;
        int pace = Math.min(paceOf(one), paceOf(other));
        int coat = (coatOf(one) + coatOf(other)) / 2;
        return 2 * wetStraight(pace, coat, 0);
    }

    public int run(int walker) {
        if (!walkers.has(walker)) return NONE;
        int least = wetStraight(FASTEST, coatOf(walker), 0);
        for (int pace = 1; pace < FASTEST; pace++) {
            if (wetStraight(pace, coatOf(walker), 0) <= least) return pace;
        }
        return FASTEST;
    }

    public int begin(int walker, int n) {
        if (!walkers.has(walker)) return NONE;
        if (!within(n, 0, 30)) return BAD;
        int later = 0;
        int least = Integer.MAX_VALUE;
        for (int i = 0; i <= n; i++) {
            int wet = wetStraight(paceOf(walker), coatOf(walker), i);
            if (wet < least) {
                least = wet;
                later = i;
            }
        }
        return later;
    }

    public int worth(int tree) {
        if (treeAt(tree) == null) return NONE;
        int without = 0;
        int with = 0;
        for (int i = 0; i < walkers.size; i++) {
            search(i, WET, tree);
            without += best[0];
            search(i, WET, -1);
            with += best[0];
        }
        return without - with;
    }

    public int first(int what) {
        if (!within(what, WET, MINUTES)) return NONE;
        int who = NOTHING;
        int least = Integer.MAX_VALUE;
        for (int i = 0; i < walkers.size; i++) {
            setOut(walked, i);
            walked.walk(number(HOME));
            int measure = outcome(walked, i, what);
            if (measure < least) {
                least = measure;
                who = i;
            }
        }
        return who;
    }

    public int stops() {
        for (int n = 0; n <= LARGEST; n++) {
            int then = now() + n;
            if (grass.ahead(then + 10) == grass.ahead(then)) return n;
        }
        return NOTHING;
    }

    // ---- seen, odds, rules, books

    public int see(int n) {
        if (!within(n, 0, LARGEST)) return BAD;
        return setNumber(SEEN, n);
    }

    public int stood(int walker, int tree, int what) {
        Tree shelter = treeAt(tree);
        if (!walkers.has(walker) || shelter == null || !within(what, 0, 1)) return NONE;
        int count = 0;
        int least = NOTHING;
        for (int n = LONGEST_WAIT; n >= 0; n--) {
            if (visited(walker, shelter, n, WET) == number(SEEN)) {
                count++;
                least = n;
            }
        }
        return what == 0 ? count : least;
    }

    public int who() {
        int bits = 0;
        for (int i = 0; i < walkers.size; i++) {
            if (wetStraight(paceOf(i), coatOf(i), 0) == number(SEEN)) bits |= 1 << i;
        }
        return bits;
    }

    public long odds(int walker, int q, int part) {
        if (!walkers.has(walker) || !within(q, 0, LARGEST) || !within(part, 0, 1)) return NO;
        int likely = 0;
        for (int later = 0; later < 10; later++) {
            if (wetStraight(paceOf(walker), coatOf(walker), later) <= q) likely++;
        }
        return lowest(likely, 10, part);
    }

    public long mean(int tree, int n, int part) {
        Tree shelter = treeAt(tree);
        if (shelter == null || !within(n, 1, LONGEST_LOOK) || !within(part, 0, 1)) return NO;
        int sum = 0;
        for (int i = 0; i < n; i++) sum += shelter.wetAt(now() + i);
        return lowest(sum, n, part);
    }

    public int rule(int tree, int n) {
        if (n == -1) {
            rules.clear();
            return 0;
        }
        if (treeAt(tree) == null) return NONE;
        if (!within(n, 0, 20)) return BAD;
        if (rules.full()) return FULL;
        rules.add(tree, n, 0);
        return rules.size;
    }

    public int ruled(int walker, int what) {
        if (!walkers.has(walker) || !within(what, WET, MINUTES)) return NONE;
        setOut(walked, walker);
        for (int i = 0; i < rules.size; i++) {
            Tree shelter = treeAt(rules.cell(i, 0));
            if (shelter != null) followRule(shelter, rules.cell(i, 1));
        }
        walked.walk(number(HOME));
        return outcome(walked, walker, what);
    }

    public int book(int tree, int minute, int under) {
        if (tree == -1) {
            entries.clear();
            return 0;
        }
        if (treeAt(tree) == null) return NONE;
        if (!within(minute, 0, LAST_MINUTE) || !within(under, 0, LARGEST)) return BAD;
        if (entries.full()) return FULL;
        entries.add(tree, minute, under);
        return entries.size;
    }

    public int looked() {
        for (int i = 0; i < entries.size; i++) {
            Tree shelter = treeAt(entries.cell(i, 0));
            if (shelter == null) continue;
            if (shelter.wetAt(entries.cell(i, 1)) != entries.cell(i, 2)) return i;
        }
        return NOTHING;
    }

    // ---- acts, the image

    public int act(int tree, int act, int x) {
        bodies.clear();
        Tree actor = treeAt(tree);
        if (actor == null) return 0;
        switch (act) {
            case ACT_HOLDS: return actor.actHolds(bodies, x);
            case ACT_DRIPS: return actor.actDrips(bodies, x);
            case ACT_TELLS: return actor.actTells(bodies, x);
            default: return 0;
        }
    }

    public int trace(int i) {
        return bodies.has(i) ? bodies.cell(i, 0) : NONE;
    }

    public int as(int tree, int k) {
        Tree taken = treeAt(tree);
        if (taken == null || !within(k, KIND_TREE, KIND_TOLD)) return NONE;
        return isOfKind(taken, k) ? taken.spot.v : OTHER_KIND;
    }

    public int image() {
        for (int i = 0; i < number(TREE_COUNT); i++) {
            Tree kept = treeAt(i);
            if (kept != null) kept.keep();
        }
        numbers.keep();
        tape.keep();
        walkers.keep();
        legs.keep();
        rules.keep();
        entries.keep();
        imaged = true;
        return number(TREE_COUNT);
    }

    public int undo() {
        if (!imaged) return STATE;
        int parksBefore = number(PARK_COUNT);
        numbers.bringBack();
        tape.bringBack();
        walkers.bringBack();
        legs.bringBack();
        rules.bringBack();
        entries.bringBack();
        // Trees and parks only ever come behind those of the image: its own still stand.
        for (int i = 0; i < number(TREE_COUNT); i++) {
            Tree kept = treeAt(i);
            if (kept != null) kept.bringBack();
        }
        if (number(PARK_COUNT) != parksBefore) followNewestPark();
        return number(TREE_COUNT);
    }

    public int count(int what) {
        switch (what) {
            case 0: return number(TREE_COUNT);
            case 1: return walkers.size;
            case 2: return number(PARK_COUNT);
            case 3: return legs.size;
            case 4: return rules.size;
            case 5: return entries.size;
            case 6: return tape.size;
            case 7: return bodies.size;
            default: return NONE;
        }
    }

    // ---- what the calls above share

    private static boolean within(int n, int least, int most) {
        return n >= least && n <= most;
    }

    private int number(int which) {
        return numbers.cell(which, 0);
    }

    /** Answers what the number was. */
    private int setNumber(int which, int n) {
        int before = numbers.cell(which, 0);
        numbers.set(which, 0, n);
        return before;
    }

    private int now() {
        return numbers.cell(MINUTE, 0);
    }

    private int paceOf(int walker) {
        return walkers.cell(walker, PACE);
    }

    private int coatOf(int walker) {
        return walkers.cell(walker, COAT);
    }

    private Tree treeAt(int i) {
        return within(i, 0, Math.min(number(TREE_COUNT), trees.length) - 1) ? trees[i] : null;
    }

    private Park parkInSlot(int slot) {
        return within(slot, 0, parks.length - 1) ? parks[slot] : null;
    }

    private void followNewestPark() {
        Park newest = parkInSlot(number(PARK_COUNT));
        if (newest == null) return;
        held = newest;
        grass.follow(newest);
        for (int i = 0; i < spots.length; i++) {
            if (spots[i] != null) spots[i].follow(newest);
        }
    }

    private static Tree planted(Spot spot, int holds) {
        switch (spot.kind) {
            case KIND_THICK: return new Thick(spot, holds);
            case KIND_THIN: return new Thin(spot, holds);
            case KIND_LATE: return new Late(spot, holds);
            case KIND_HOLLOW: return new Hollow(spot, holds);
            case KIND_BROAD: return new Broad(spot, holds);
            case KIND_TOLD: return new Told(spot, holds);
            default: return new Tree(spot, holds);
        }
    }

    private static boolean isOfKind(Tree tree, int kind) {
        switch (kind) {
            case KIND_TREE: return true;
            case KIND_THICK: return tree instanceof Thick;
            case KIND_THIN: return tree instanceof Thin;
            case KIND_LATE: return tree instanceof Late;
            case KIND_HOLLOW: return tree instanceof Hollow;
            case KIND_BROAD: return tree instanceof Broad;
            default: return tree instanceof Told;
        }
    }

    private void setOut(Trip trip, int walker) {
        trip.setOut(paceOf(walker), now());
    }

    private int wetBy(int got, int coat) {
        return Math.min(held.soak, Math.max(0, got - coat));
    }

    private int outcome(Trip trip, int walker, int what) {
        int minutes = trip.minute - now();
        if (what == MINUTES) return minutes;
        int wet = wetBy(trip.got, coatOf(walker));
        return what == WET ? wet : wet + held.waitCost * minutes;
    }

    private int wetStraight(int pace, int coat, int later) {
        walked.setOut(pace, now() + later);
        walked.walk(number(HOME));
        return wetBy(walked.got, coat);
    }

    private int visited(int walker, Tree shelter, int waiting, int what) {
        setOut(walked, walker);
        walked.visit(shelter, waiting);
        walked.walk(number(HOME));
        return outcome(walked, walker, what);
    }

    private void followRule(Tree shelter, int n) {
        if (shelter.wetAt(walked.minute) >= n) return;
        walked.walk(shelter.spot.place);
        for (int waited = 0; waited < LONGEST_WAIT; waited++) {
            int wet = shelter.wetAt(walked.minute);
            if (wet >= n) return;
            walked.endure(wet);
        }
    }

    /** Finds the best way of a walker by WET or COST that goes to no more than two trees. */
    private void search(int walker, int measured, int leftOut) {
        best[0] = Integer.MAX_VALUE;
        setOut(walked, walker);
        if (offer(walked, walker, measured, 0)) nameShelters(NOTHING, NOTHING, NOTHING, NOTHING);
        for (int a = 0; a < number(TREE_COUNT); a++) {
            Tree shelter = treeAt(a);
            if (shelter == null || a == leftOut) continue;
            setOut(walked, walker);
            walked.walk(shelter.spot.place);
            for (int waiting = 0; waiting < 10; waiting++) {
                if (offer(walked, walker, measured, 1)) nameShelters(a, waiting, NOTHING, NOTHING);
                searchSecond(walker, measured, leftOut, a, waiting);
                walked.endure(shelter.wetAt(walked.minute));
            }
        }
    }

    /** Goes on from where the first trip stands. */
    private void searchSecond(int walker, int measured, int leftOut, int a, int waitingThere) {
        for (int b = 0; b < number(TREE_COUNT); b++) {
            Tree shelter = treeAt(b);
            if (shelter == null || b == leftOut || b == a) continue;
            onward.take(walked);
            onward.walk(shelter.spot.place);
            for (int waiting = 0; waiting < 10; waiting++) {
                if (offer(onward, walker, measured, 2)) nameShelters(a, waitingThere, b, waiting);
                onward.endure(shelter.wetAt(onward.minute));
            }
        }
    }

    /** Is the trip, gone home from where it is, better than the best so far? Then it is that. */
    private boolean offer(Trip trip, int walker, int measured, int shelters) {
        homeward.take(trip);
        homeward.walk(number(HOME));
        int measure = outcome(homeward, walker, measured);
        int minutes = homeward.minute - now();
        if (!isBetter(measure, minutes, shelters)) return false;
        best[0] = measure;
        best[1] = minutes;
        best[2] = shelters;
        return true;
    }

    /** Ways alike in all three come in the order that the document asks: the first one stays. */
    private boolean isBetter(int measure, int minutes, int shelters) {
        if (measure != best[0]) return measure < best[0];
        if (minutes != best[1]) return minutes < best[1];
        return shelters < best[2];
    }

    private void nameShelters(int a, int waitingThere, int b, int waitingHere) {
        best[3] = a;
        best[4] = waitingThere;
        best[5] = b;
        best[6] = waitingHere;
    }

    /** A part of the fraction in lowest terms: 0 above, else below the line. */
    private static long lowest(int above, int below, int part) {
        int asked = part == 0 ? above : below;
        for (int d = below; d > 1; d--) {
            if (above % d == 0 && below % d == 0) return asked / d;
        }
        return asked;
    }

    /** Rows of numbers, up to a limit, that can be kept and brought back. */
    private static final class Rows {
        private final int limit, width;
        private final int[] cells, keptCells;
        private int size, keptSize;

        Rows(int limit, int width) {
            this.limit = Math.max(0, limit);
            this.width = Math.max(1, width);
            cells = new int[this.limit * this.width];
            keptCells = new int[this.limit * this.width];
        }

        boolean has(int row) {
            return row >= 0 && row < size;
        }

        boolean full() {
            return size >= limit;
        }

        int cell(int row, int column) {
            if (row < 0 || row >= size || column < 0 || column >= width) return 0;
            int i = row * width + column;
            return i >= 0 && i < cells.length ? cells[i] : 0;
        }

        void set(int row, int column, int n) {
            if (row < 0 || row >= size || column < 0 || column >= width) return;
            int i = row * width + column;
            if (i >= 0 && i < cells.length) cells[i] = n;
        }

        /** Columns that these rows do not have are passed over. Answers the new row's place. */
        int add(int a, int b, int c) {
            int start = size * width;
            if (size >= limit || start < 0 || start + width > cells.length) return -1;
            cells[start] = a;
            if (width > 1) cells[start + 1] = b;
            if (width > 2) cells[start + 2] = c;
            size++;
            return size - 1;
        }

        void clear() {
            size = 0;
        }

        void keep() {
            System.arraycopy(cells, 0, keptCells, 0, Math.min(cells.length, keptCells.length));
            keptSize = size;
        }

        void bringBack() {
            System.arraycopy(keptCells, 0, cells, 0, Math.min(cells.length, keptCells.length));
            size = keptSize;
        }
    }

    /** A text of how hard it rains when, kept as a program for a stack of bits. */
    private static final class Park {
        private static final int MOST_CLAUSES = 10, MOST_OPEN = 5, END = -1;

        /** A code is its action by 100 and a number; actions below these are tests. */
        private static final int NOT = 15, AND = 16, OR = 17, MORE = 18, LESS = 19;

        private int soak = LARGEST, waitCost = 1;
        private final int[] codes = new int[MOST_SIGNS];
        private int used;

        /** What m, h, t, k and v are while the program runs. */
        private final int[] fields = new int[5];

        private final int[] text = new int[MOST_SIGNS];
        private int size, at, sign, value;

        /** Answers the place of the first byte that does not go on, or -1 if all is a park. */
        int read(Rows tape) {
            soak = LARGEST;
            waitCost = 1;
            used = 0;
            size = Math.min(tape.size, text.length);
            for (int i = 0; i < size; i++) text[i] = tape.cell(i, 0);
            at = -1;
            step();
            boolean good = readClause();
            for (int i = 1; i < MOST_CLAUSES && good && sign != END; i++) {
                good = readSign(';') && readClause();
            }
            return good && sign == END ? -1 : at;
        }

        private boolean readClause() {
            int action;
            switch (sign) {
                case 's':
                    if (!readWord("soak ")) return false;
                    soak = value;
                    return true;
                case 'w':
                    if (!readWord("wait ")) return false;
                    waitCost = value;
                    return true;
                case 'r':
                    if (!readWord("rain ")) return false;
                    action = MORE;
                    break;
                case 'l':
                    if (!readWord("less ")) return false;
                    action = LESS;
                    break;
                default:
                    return false;
            }
            int n = value;
            if (!readSign(' ') || !readChoice(0)) return false;
            emit(action, n);
            return true;
        }

        /** A word and the number behind it. */
        private boolean readWord(String word) {
            for (int i = 0; i < word.length(); i++) {
                if (!readSign(word.charAt(i))) return false;
            }
            return readNumber();
        }

        private boolean readSign(int wanted) {
            if (sign != wanted) return false;
            step();
            return true;
        }

        private boolean readNumber() {
            if (!isDigit()) return false;
            value = sign - '0';
            step();
            if (value != 0 && isDigit()) {
                value = value * 10 + sign - '0';
                step();
            }
            return true;
        }

        /** An E: each & joins at once, each | waits until what stands behind it has been joined. */
        private boolean readChoice(int open) {
            if (!readPart(open)) return false;
            boolean waits = false;
            for (int i = 0; i < MOST_SIGNS && (sign == '&' || sign == '|'); i++) {
                boolean joins = sign == '&';
                if (!joins && waits) emit(OR, 0);
                step();
                if (!readPart(open)) return false;
                if (joins) emit(AND, 0);
                else waits = true;
            }
            if (waits) emit(OR, 0);
            return true;
        }

        /** An F; open counts the ! and ( that it stands in. */
        private boolean readPart(int open) {
            if (sign != '!' && sign != '(') return readTest();
            if (open >= MOST_OPEN) return false;
            boolean denies = sign == '!';
            step();
            if (!denies) return readChoice(open + 1) && readSign(')');
            if (!readPart(open + 1)) return false;
            emit(NOT, 0);
            return true;
        }

        private boolean readTest() {
            int field = sign == END ? -1 : "mhtkv".indexOf((char) sign);
            if (field < 0) return false;
            step();
            int comparison = sign == END ? -1 : "<=>".indexOf((char) sign);
            if (comparison < 0) return false;
            step();
            if (!readNumber()) return false;
            emit(field * 3 + comparison, value);
            return true;
        }

        private boolean isDigit() {
            return sign >= '0' && sign <= '9';
        }

        private void step() {
            at++;
            sign = at >= 0 && at < size && at < text.length ? text[at] : END;
        }

        /** Each code comes from a byte of its own, so that all find room. */
        private void emit(int action, int n) {
            if (used < 0 || used >= codes.length) return;
            codes[used] = action * 100 + n;
            used++;
        }

        /** A clause leaves its bit on the stack when it is done: nothing reads it again. */
        int rainAt(int minute, int number, int kind, int v) {
            fields[0] = minute % 10;
            fields[1] = minute / 10;
            fields[2] = number;
            fields[3] = kind;
            fields[4] = v;
            int rain = 4;
            long bits = 0;
            for (int i = 0; i < used && i < codes.length; i++) {
                int action = codes[i] / 100;
                int n = codes[i] % 100;
                if (action == NOT) {
                    bits ^= 1;
                } else if (action == AND) {
                    bits = (bits >> 1) & (bits | ~1L);
                } else if (action == OR) {
                    bits = (bits >> 1) | (bits & 1);
                } else if (action == MORE) {
                    rain += (bits & 1) == 1 ? n : 0;
                } else if (action == LESS) {
                    rain -= (bits & 1) == 1 ? n : 0;
                } else if (action >= 0 && action / 3 < fields.length) {
                    int left = fields[action / 3];
                    int comparison = left < n ? 0 : left == n ? 1 : 2;
                    bits = (bits << 1) | (comparison == action % 3 ? 1 : 0);
                }
            }
            return rain < 0 ? 0 : rain;
        }
    }

    /** Where rain falls: the grass, or a tree; the rain is added up as far as it was asked for. */
    private static final class Spot {
        private final int[] sums = new int[HORIZON + 1];
        private int known;
        private Park park;
        private int number = NO_TREE, kind = NO_TREE, v = NO_TREE, place;

        Spot(Park park) {
            this.park = park;
        }

        void follow(Park newest) {
            park = newest;
            known = 0;
        }

        void become(int treeNumber, int treeKind, int treeV, int treePlace) {
            number = treeNumber;
            kind = treeKind;
            v = treeV;
            place = treePlace;
            known = 0;
        }

        /** All rain ahead of a minute. */
        int ahead(int minute) {
            int end = Math.max(0, Math.min(minute, HORIZON));
            if (park == null || end >= sums.length) return 0;
            for (int i = known; i >= 0 && i < end; i++) {
                sums[i + 1] = sums[i] + park.rainAt(i, number, kind, v);
            }
            known = Math.max(known, end);
            return sums[end];
        }

        int rainAt(int minute) {
            return ahead(minute + 1) - ahead(minute);
        }
    }

    /** A walker under way: where, when, and what it got so far. */
    private static final class Trip {
        private final Spot grass;
        private int pace = 1, place, minute, got;

        Trip(Spot grass) {
            this.grass = grass;
        }

        void setOut(int byPace, int atMinute) {
            pace = Math.max(1, byPace);
            place = 0;
            minute = atMinute;
            got = 0;
        }

        void take(Trip other) {
            pace = other.pace;
            place = other.place;
            minute = other.minute;
            got = other.got;
        }

        void walk(int to) {
            if (pace < 1) return;
            int arrival = minute + (Math.abs(to - place) + pace - 1) / pace;
            got += grass.ahead(arrival) - grass.ahead(minute);
            minute = arrival;
            place = to;
        }

        void endure(int rain) {
            got += rain;
            minute++;
        }

        void visit(Tree shelter, int waiting) {
            walk(shelter.spot.place);
            for (int i = 0; i < waiting; i++) endure(shelter.wetAt(minute));
        }
    }

    private static class Tree {
        final Spot spot;
        int holds;
        private int keptHolds;

        Tree(Spot spot, int holds) {
            this.spot = spot;
            this.holds = holds;
        }

        /** UNDER; ahead of minute 0 there is nothing. */
        int wetAt(int minute) {
            return through(spot.ahead(minute + 1)) - through(spot.ahead(minute));
        }

        final int through(int sum) {
            return Math.max(0, sum - holds);
        }

        final boolean isAboveHolds(int minute) {
            return spot.ahead(minute + 1) > holds;
        }

        int actHolds(Rows bodies, int x) {
            bodies.add(1, 0, 0);
            return x + spot.number;
        }

        int actDrips(Rows bodies, int x) {
            bodies.add(2, 0, 0);
            return actHolds(bodies, x) - spot.v;
        }

        int actTells(Rows bodies, int x) {
            bodies.add(3, 0, 0);
            return actDrips(bodies, x) * 2;
        }

        void keep() {
            keptHolds = holds;
        }

        void bringBack() {
            holds = keptHolds;
        }
    }

    private static class Thick extends Tree {
        Thick(Spot spot, int holds) {
            super(spot, holds);
        }

        int wetAt(int minute) {
            return super.wetAt(minute) / 2;
        }

        int actHolds(Rows bodies, int x) {
            bodies.add(11, 0, 0);
            return super.actHolds(bodies, x * 3);
        }
    }

    private static class Thin extends Tree {
        Thin(Spot spot, int holds) {
            super(spot, holds);
        }

        int wetAt(int minute) {
            int rain = spot.rainAt(minute);
            return spot.ahead(minute + 1) >= holds ? rain : Math.max(0, rain - spot.v);
        }

        int actDrips(Rows bodies, int x) {
            bodies.add(21, 0, 0);
            return -super.actDrips(bodies, x);
        }
    }

    private static class Late extends Tree {
        Late(Spot spot, int holds) {
            super(spot, holds);
        }

        int wetAt(int minute) {
            int late = super.wetAt(minute - spot.v);
            return late == 0 && isAboveHolds(minute) ? 1 : late;
        }

        int actTells(Rows bodies, int x) {
            bodies.add(31, 0, 0);
            return super.actTells(bodies, x) ^ 7;
        }
    }

    private static final class Hollow extends Thick {
        Hollow(Spot spot, int holds) {
            super(spot, holds);
        }

        int wetAt(int minute) {
            int every = spot.v + 1;
            return every < 1 || minute % every == 0 ? 0 : super.wetAt(minute);
        }

        int actTells(Rows bodies, int x) {
            bodies.add(41, 0, 0);
            return super.actTells(bodies, x - 1) + actHolds(bodies, 2);
        }
    }

    private static final class Broad extends Thin {
        Broad(Spot spot, int holds) {
            super(spot, holds);
        }

        int wetAt(int minute) {
            return Math.max(0, super.wetAt(minute) - 1);
        }

        int actHolds(Rows bodies, int x) {
            bodies.add(51, 0, 0);
            return super.actHolds(bodies, x) ^ spot.number;
        }
    }

    private static final class Told extends Late {
        private final int[] more = new int[4];
        private final int[] keptMore = new int[4];

        Told(Spot spot, int holds) {
            super(spot, holds);
        }

        /** Answers what it was. */
        int setMore(int k, int n) {
            if (k < 0 || k >= more.length) return NONE;
            int before = more[k];
            more[k] = n;
            return before;
        }

        int wetAt(int minute) {
            int wet = super.wetAt(minute);
            int k = minute % 4;
            return k >= 0 && k < more.length && isAboveHolds(minute) ? wet + more[k] : wet;
        }

        int actDrips(Rows bodies, int x) {
            bodies.add(61, 0, 0);
            return super.actDrips(bodies, x) + spot.v;
        }

        void keep() {
            super.keep();
            System.arraycopy(more, 0, keptMore, 0, more.length);
        }

        void bringBack() {
            super.bringBack();
            System.arraycopy(keptMore, 0, more, 0, more.length);
        }
    }
}
