/** Promises 1 to 3 and 14: a new object, the tape, parks, rain. */
final class ParkSentences extends Group {
    private static final String[] WORDS = {"soak", "wait", "rain", "less"};
    private static final String TEN = "soak 1;soak 2;soak 3;soak 4;soak 5;soak 6;soak 7;soak 8;soak 9;wait 2";
    private static final String HUNDRED = "rain 99 (m<10&h<99)|(t=9)|(k=99)|(v>10);less 99 !m<10|!(h<9&h>10)&!m=7;"
        + "soak 99;wait 99;wait 9;soak 8";

    @Override
    void all() {
        newObject();
        feeding();
        parking();
        clauses();
        blanksAndNumbers();
        choices();
        tests();
        opened();
        faults();
        parks();
        soakAndWait();
        amounts();
        raining();
    }

    private void newObject() {
        TreeToTree x = says(1, "No TREES, nobody, no PARK.");
        for (int what = 0; what < 8; what++) due("count(" + what + ")", x.count(what), 0);
        due("of", x.of(0, 0), NONE);
        due("at", x.at(0, 0), NONE);
        due("who", x.who(), 0);
        due("undo", x.undo(), STATE);
        due("trace", x.trace(0), NONE);
        x.tree(0, 0, 0, 0);
        x.walker(1, 0);
        Checks.park(x, "soak 5");
        x.see(7);
        x.image();
        TreeToTree y = new TreeToTree();
        for (int what = 0; what < 8; what++) due("count(" + what + ") of another", y.count(what), 0);
        due("undo of another", y.undo(), STATE);
        due("see of another", y.see(0), 0);
        due("told(1) of another", y.told(1), 99);

        x = says(1, "MINUTE: 0 at first.");
        due("told(0)", x.told(0), 0);
        due("go(1)", x.go(1), 1);
    }

    private void feeding() {
        TreeToTree x = says(2, "A sign (0 .. 127)");
        due("-1", x.feed(-1), BAD);
        due("128", x.feed(128), BAD);
        due("the least", x.feed(Integer.MIN_VALUE), BAD);
        due("the most", x.feed(Integer.MAX_VALUE), BAD);
        due("count(6)", x.count(6), 0);
        due("0", x.feed(0), 1);
        due("127", x.feed(127), 2);
        due("a fault by 0", x.park(), -10);
        Checks.feed(x, "soak 1");
        x.feed(0);
        due("a fault by 0 behind", x.park(), -16);
        Checks.feed(x, "soak 1");
        x.feed(127);
        due("a fault by 127 behind", x.park(), -16);

        x = says(2, "comes behind THE TAPE's: how many it has.");
        String text = "soak 5;wait 7";
        for (int i = 0; i < text.length(); i++) due("sign " + i, x.feed(text.charAt(i)), i + 1);
        due("park", x.park(), 0);
        due("soak", x.told(1), 5);
        due("wait", x.told(2), 7);
        due("the first again", x.feed('s'), 1);

        x = says(2, "BAD; FULL.");
        for (int i = 0; i < 100; i++) x.feed('a');
        due("bad ahead of full", x.feed(128), BAD);
        due("full", x.feed(127), FULL);
        due("full still", x.feed(0), FULL);
        due("count(6)", x.count(6), 100);

        x = says(3, "A PARK is read from THE TAPE (bytes, 100 at most):");
        Checks.feed(x, HUNDRED.substring(0, 99));
        due("the 100th", x.feed('8'), 100);
        due("the 101st", x.feed('8'), FULL);
        due("park", x.park(), 0);
        due("soak, which the 101st would have made 88", x.told(1), 8);
    }

    private void parking() {
        TreeToTree x = says(3, "THE TAPE, which is empty then (by a FAULT, too),");
        due("park", Checks.park(x, "soak 5"), 0);
        due("count(6)", x.count(6), 0);
        due("a fault", Checks.park(x, "soak 6x"), -16);
        due("count(6) behind a fault", x.count(6), 0);
        due("feed", x.feed('s'), 1);
        Checks.feed(x, "oak 7");
        due("park of what came since", x.park(), 1);

        x = says(3, "is a PARK, and holds: its number;");
        due("first", Checks.park(x, "soak 50;wait 3;rain 2 m=0"), 0);
        due("soak", x.told(1), 50);
        due("wait", x.told(2), 3);
        due("rain", x.told(4), 6);
        due("second", Checks.park(x, "soak 6"), 1);
        due("soak", x.told(1), 6);
        due("rain", x.told(4), 4);

        x = says(3, "-10 less the FAULT (the one that held holds).");
        Checks.park(x, "soak 50;wait 3;rain 2 m<9");
        due("0", Checks.park(x, "x"), -10);
        due("the size", Checks.park(x, "soak 7;wait 9;rain 9 m=0;"), -35);
        due("a longer one", Checks.park(x, "less 1 m=0;less 1 m=0|m=1;less 2 m=0&k=9;soak 1;x"), -58);
        due("soak", x.told(1), 50);
        due("wait", x.told(2), 3);
        due("rain", x.told(4), 6);
        due("rain later", x.rain(-1, 59), 4);
        due("count(2)", x.count(2), 1);
        x = new TreeToTree();
        Checks.park(x, "soak 7;wait 9;");
        due("none held: soak", x.told(1), 99);
        due("none held: wait", x.told(2), 1);
        due("none held: count(2)", x.count(2), 0);
        due("a fault with clauses of all words", Checks.park(x, "rain 9 m=0;less 2 m=0&(h=0|t=9);soak 7;wait 9;"), -56);
        due("a park behind it", Checks.park(x, "rain 1 m=0"), 0);
        due("rain by that alone", x.told(4), 5);
        due("soak by that alone", x.told(1), 99);
        due("wait by that alone", x.told(2), 1);

        x = says(3, "FULL (ahead of all; THE TAPE stays).");
        for (int i = 0; i < 5; i++) due("park " + i, Checks.park(x, "soak " + i), i);
        due("ahead of the fault of an empty tape", x.park(), FULL);
        Checks.feed(x, "nonsense");
        due("ahead of a fault", x.park(), FULL);
        due("count(6)", x.count(6), 8);
        due("feed", x.feed('s'), 9);
        due("count(2)", x.count(2), 5);
        due("the fifth holds", x.told(1), 4);
        x = new TreeToTree();
        for (int i = 0; i < 5; i++) Checks.park(x, "soak " + i);
        due("of what is a park", Checks.park(x, "soak 77"), FULL);
        due("the fifth holds still", x.told(1), 4);
    }

    private void clauses() {
        says(3, "CLAUSES, 10 at most, with ; between:");
        good("soak 1", "soak 1;wait 1", TEN);
        fault("", 0);
        fault(TEN + ";soak 1", TEN.length());
        fault(TEN + ";", TEN.length());
        fault(TEN + "x", TEN.length());
        fault(";soak 1", 0);
        fault("soak 1;", 7);
        fault("soak 1;;soak 1", 7);
        fault("soak 1soak 1", 6);
        fault("soak 1,soak 1", 6);
        fault("soak 1&soak 1", 6);
        fault("rain 1 m=1;m=2", 11);

        says(3, "soak n; wait n; rain n E; less n E");
        good("soak 1", "wait 1", "rain 1 m=1", "less 1 m=1", "soak 1;less 1 m=1;rain 1 m=1;wait 1");
        for (String word : WORDS) {
            for (int i = 0; i < 4; i++) fault(word.substring(0, i), i);
            for (int i = 0; i < 4; i++) fault(word.substring(0, i) + "x" + word.substring(i + 1) + " 1 m=1", i);
            fault(word.toUpperCase(), 0);
            fault(word + word, 4);
        }
        fault("soak 1 m=1", 6);
        fault("wait 1 m=1", 6);
        fault("rain 1", 6);
        fault("less 1", 6);
        fault("rain 1;soak 1", 6);
        fault("less 1;soak 1", 6);
        fault("rain 1 m=1 m=1", 10);
    }

    private void blanksAndNumbers() {
        says(3, "(one blank ahead of each part behind the word;");
        for (String word : WORDS) {
            fault(word, 4);
            fault(word + "1 m=1", 4);
            fault(word + "  1 m=1", 5);
            fault(word + "\t1 m=1", 4);
            fault(" " + word + " 1 m=1", 0);
        }
        for (String word : new String[] {"rain", "less"}) {
            fault(word + " 5m=1", 6);
            fault(word + " 5 ", 7);
            fault(word + " 5  m=1", 7);
            fault(word + " 5 m =1", 8);
            fault(word + " 5 m= 1", 9);
            fault(word + " 5 m=1 ", 10);
            fault(word + " 5 m=1& m=1", 11);
            fault(word + " 5 ! m=1", 8);
            fault(word + " 5 ( m=1)", 8);
        }
        fault("soak 1 ", 6);
        fault("wait 1 ", 6);
        fault("soak 1; wait 1", 7);

        says(3, "n 1 or 2 digits, no 0 ahead of another).");
        for (String word : WORDS) {
            String behind = word.equals("rain") || word.equals("less") ? " m=1" : "";
            for (int n : new int[] {0, 9, 10, 99}) good(word + " " + n + behind);
            fault(word + " ", 5);
            fault(word + " x" + behind, 5);
            fault(word + " -1" + behind, 5);
            fault(word + " /" + behind, 5);
            fault(word + " :" + behind, 5);
            fault(word + " 00" + behind, 6);
            fault(word + " 05" + behind, 6);
            fault(word + " 1x" + behind, 6);
            fault(word + " 100" + behind, 7);
            fault(word + " 99." + behind, 7);
        }
        TreeToTree x = parked("soak 10;wait 98");
        due("10", x.told(1), 10);
        due("98", x.told(2), 98);
        due("34", parked("rain 34 m=0").told(4), 38);
    }

    private void choices() {
        says(3, "E: T, or T|E. T: F, or F&T. F: !F, (E), or a TEST:");
        rains("rain 1 m=1|m=0&m=1", 0, 4);
        rains("rain 1 m=0|m=1&m=1", 0, 5);
        rains("rain 1 m=1&m=1|m=0", 0, 5);
        rains("rain 1 m=1&m=0|m=1", 0, 4);
        rains("rain 1 m=1|m=2|m=0&h=0", 0, 5);
        rains("rain 1 m=0&m=1|m=2&h=0|m=3", 0, 4);
        rains("rain 1 m=0&h=0&t=9&m=1", 0, 4);
        rains("rain 1 m=0&h=0&t=9&k=9", 0, 5);
        rains("rain 1 (m=0|m=1)&m=1", 0, 4);
        rains("rain 1 m=1&(m=0|m=1)", 0, 4);
        rains("rain 1 (m=0|m=1)&m=0", 0, 5);
        rains("rain 1 !m=0|m=0", 0, 5);
        rains("rain 1 !m=0|m=1", 0, 4);
        rains("rain 1 !(m=0|m=1)", 1, 4);
        rains("rain 1 !m=1&m=0", 1, 4);
        rains("rain 1 !m=1&m=0", 0, 5);
        rains("rain 1 !!m=1", 1, 5);
        rains("rain 1 !!m=1", 2, 4);
        rains("rain 1 !(!m=1)", 1, 5);
        String many = "rain 1 m=9|m=8|m=7|m=6|m=5&h=0|m=9&m=8|m=9|m=9|m=9|m=9|m=9|m=9|m=9|m=9|m=9|m=9|m=9|m=9|m=9|m=9|m=2";
        rains(many.substring(0, 98), 5, 5);
        rains(many.substring(0, 98), 15, 4);
        rains("rain 1 m=9|(m=8|(m=7|(m=6|(m=5|m=4&(h=0|h=1)))))", 14, 5);
        rains("rain 1 m=9|(m=8|(m=7|(m=6|(m=5|m=4&(h=0|h=1)))))", 24, 4);
        fault("rain 5 &m<1", 7);
        fault("rain 5 |m<1", 7);
        fault("rain 5 m<1&", 11);
        fault("rain 5 m<1|", 11);
        fault("rain 5 m<1&&m<2", 11);
        fault("rain 5 m<1||m<2", 11);
        fault("rain 5 m<1|&m<2", 11);
        fault("rain 5 m<1m<2", 10);
        fault("rain 5 m<1!m<2", 10);
        fault("rain 5 m<1(m<2)", 10);
        fault("rain 5 (m<1)m<2", 12);
        fault("rain 5 ()", 8);
        fault("rain 5 )", 7);
        fault("rain 5 (", 8);
        fault("rain 5 !", 8);
        fault("rain 5 !&m<2", 8);
        fault("rain 5 (m<1", 11);
        fault("rain 5 (m<1;soak 1", 11);
        fault("rain 5 m<1)", 10);
        fault("rain 5 (m<1))", 12);
    }

    private void tests() {
        says(3, "m or h or t or k or v, one of < = >, a number likewise:");
        for (char field : "mhtkv".toCharArray()) {
            for (char sign : "<=>".toCharArray()) good("rain 1 " + field + sign + "0", "less 1 " + field + sign + "99");
        }
        fault("rain 5 x<1", 7);
        fault("rain 5 1<m", 7);
        fault("rain 5 m", 8);
        fault("rain 5 m!1", 8);
        fault("rain 5 m1", 8);
        fault("rain 5 m<", 9);
        fault("rain 5 m<=1", 9);
        fault("rain 5 m==1", 9);
        fault("rain 5 m<m", 9);
        fault("rain 5 m<00", 10);
        fault("rain 5 m<01", 10);
        fault("rain 5 m<100", 11);
        rains("rain 1 m<3", 2, 5);
        rains("rain 1 m<3", 3, 4);
        rains("rain 1 m=3", 2, 4);
        rains("rain 1 m=3", 3, 5);
        rains("rain 1 m=3", 4, 4);
        rains("rain 1 m>3", 3, 4);
        rains("rain 1 m>3", 4, 5);

        says(3, "of a MINUTE m it modulo 10, h it by 10 (cut);");
        rains("rain 1 m=9", 9, 5);
        rains("rain 1 m=0", 10, 5);
        rains("rain 1 m=10", 10, 4);
        rains("rain 1 m=9", 999, 5);
        rains("rain 1 h=0", 0, 5);
        rains("rain 1 h=0", 9, 5);
        rains("rain 1 h=0", 10, 4);
        rains("rain 1 h=1", 10, 5);
        rains("rain 1 h=1", 19, 5);
        rains("rain 1 h=2", 19, 4);
        rains("rain 1 h=99", 989, 4);
        rains("rain 1 h=99", 990, 5);
        rains("rain 1 h=99", 999, 5);

        TreeToTree x = says(3, "of a TREE t its number, k its KIND, v its v (without a TREE: t, k, v are 9).");
        x.tree(0, 5, 0, 0);
        x.tree(6, 9, 0, 0);
        Checks.park(x, "rain 1 t=0;rain 2 t=1;rain 10 k=0;rain 20 k=6;rain 30 v=5;rain 40 v=9");
        due("rain(0, 0)", x.rain(0, 0), 4 + 1 + 10 + 30);
        due("rain(1, 0)", x.rain(1, 0), 4 + 2 + 20 + 40);
        due("rain(-1, 0), v is 9", x.rain(-1, 0), 4 + 40);
        Checks.park(x, "rain 1 t=9;rain 2 k=9;rain 10 v=9;less 3 t<9|k<9|v<9;less 4 t>9|k>9|v>9");
        due("without a tree", x.rain(-1, 0), 4 + 13);
        due("at 0", x.rain(0, 0), 1);
        due("at 1, v is 9", x.rain(1, 0), 4 + 10 - 3);
    }

    private void opened() {
        says(3, "At most 5 of ! and ( are open");
        good("rain 5 !!!!!m=1", "rain 5 (((((m=1)))))", "rain 5 !(!(!m=1))", "rain 5 (!(!(m=1)))");
        fault("rain 5 !!!!!!m=1", 12);
        fault("rain 5 ((((((m=1))))))", 12);
        fault("rain 5 !(!(!(m=1)))", 12);
        fault("rain 5 (((((!m=1)))))", 12);
        fault("rain 5 !!!!!(m=1)", 12);
        rains("rain 5 !!!!!m=1", 0, 9);
        rains("rain 5 (((((m=1)))))", 1, 9);

        says(3, "(a ( till its ) ,");
        good("rain 5 (((((m=1))&(m=2))))", "rain 5 (((((m=1)&(m=2)))))", "rain 5 (m=1)|(m=2)|(m=3)|(m=4)|(m=5)|(m=6)|(m=7)",
            "rain 5 (m=1)&!(!(!m=2))");
        fault("rain 5 (((((m=1&(m=2))))))", 16);
        fault("rain 5 (((((m=1&!m=2)))))", 16);
        fault("rain 5 (((((m=1)&((m=2))))))", 18);

        says(3, "a ! till its F ends).");
        good("rain 5 !m=1&!m=2&!m=3|!m=4|!m=5&!m=6|!m=7", "rain 5 !m=1&(((((m=2)))))", "rain 5 !(m=1)|!!!!!m=2",
            "rain 5 !!!!!m=1&!!!!!m=2|!!!!!m=3", "rain 5 !(!m=1&!m=2&!((m=3)))");
        fault("rain 5 !((((m=1&!m=2))))", 16);
        fault("rain 5 !((((m=1|(m=2)))))", 16);
    }

    private void faults() {
        says(3, "FAULT: the place of the first byte with which no PARK can go on");
        fault("x", 0);
        fault("soak 05;wait x", 6);
        fault("soak 5;wait x;y", 12);
        fault("rain 5 m=1;rain 5 (m=1;x", 22);
        fault(HUNDRED.substring(0, 99) + "x", 99);
        fault(TEN.replace("soak 9", "soak 9 "), 62);

        says(3, "(the size, if it ends too early).");
        fault("", 0);
        fault("s", 1);
        fault("soak ", 5);
        fault("soak 1;", 7);
        fault("rain 5 (m=1", 11);
        fault(HUNDRED.substring(0, 94) + "rain 9", 100);
    }

    private void parks() {
        TreeToTree x = says(3, "PARKS are numbered from 0 on, 5 at most;");
        for (int i = 0; i < 5; i++) due("park " + i, Checks.park(x, "soak 1"), i);
        due("a sixth", Checks.park(x, "soak 1"), FULL);
        due("count(2)", x.count(2), 5);

        x = says(3, "the newest one holds;");
        x.tree(0, 0, 10, 0);
        Checks.park(x, "soak 5;wait 6;rain 7 m=0;rain 8 t=0");
        due("under by the first", x.under(0, 0), 9);
        Checks.park(x, "rain 1 m=0");
        due("soak", x.told(1), 99);
        due("wait", x.told(2), 1);
        due("rain", x.told(4), 5);
        due("rain at the tree", x.rain(0, 1), 4);
        due("under", x.under(0, 2), 3);

        x = says(3, "without one there are no CLAUSES.");
        x.tree(0, 0, 10, 0);
        for (int n = 0; n <= 60; n += 20) due("rain in " + n, x.rain(-1, n), 4);
        due("rain at a tree", x.rain(0, 60), 4);
        due("soak", x.told(1), 99);
        due("wait", x.told(2), 1);
    }

    private void soakAndWait() {
        TreeToTree x = says(3, "SOAK (99 without: who has got so much gets no wetter),");
        x.walker(1, 0);
        x.walker(20, 0);
        due("99 of 240", x.straight(0, 0), 99);
        Checks.park(x, "soak 11");
        due("11 of 12", x.straight(1, 0), 11);
        Checks.park(x, "soak 12");
        due("12 of 12", x.straight(1, 0), 12);
        Checks.park(x, "soak 13");
        due("12 of 13", x.straight(1, 0), 12);
        Checks.park(x, "soak 0");
        due("soak 0", x.straight(1, 0), 0);
        Checks.park(x, "wait 5");
        due("without again", x.straight(0, 0), 99);

        x = says(3, "WAIT (1 without: what a minute costs):");
        x.walker(20, 99);
        due("1 each", x.straight(0, 2), 3);
        Checks.park(x, "wait 0");
        due("0 each", x.straight(0, 2), 0);
        Checks.park(x, "wait 99");
        due("99 each", x.straight(0, 2), 297);
        Checks.park(x, "soak 5");
        due("without again", x.straight(0, 2), 3);

        x = says(3, "the last n.");
        Checks.park(x, "soak 1;wait 99;soak 20;wait 0");
        due("soak", x.told(1), 20);
        due("wait", x.told(2), 0);
        Checks.park(x, "wait 3;soak 30;rain 1 m=0;soak 2;wait 98");
        due("soak", x.told(1), 2);
        due("wait", x.told(2), 98);
    }

    private void amounts() {
        says(14, "RAIN at a MINUTE, at a TREE or without one: 4,");
        rains("rain 9 m=5", 0, 4);
        rains("less 9 m=5", 0, 4);
        rains("soak 9;wait 9", 0, 4);

        says(14, "the n of all rain whose E holds,");
        rains("rain 1 m=0;rain 20 m=0", 0, 25);
        rains("rain 1 m=0;rain 20 m=1;rain 40 m<9", 0, 45);
        rains("rain 99 h<1;rain 99 h<1;rain 99 h<1;rain 99 h<1;rain 99 h<1;rain 99 h<1;rain 99 h<1;rain 99 h<1", 9, 796);

        says(14, "less those of all less, together (0 at least).");
        rains("less 3 m=0", 0, 1);
        rains("less 4 m=0", 0, 0);
        rains("less 5 m=0", 0, 0);
        rains("less 3 m=0;less 3 m=0", 0, 0);
        rains("less 1 m=0;less 2 m=0", 0, 1);
        rains("less 9 m=0;rain 6 m=0", 0, 1);
        rains("less 9 m=0;rain 20 m=0;less 9 m=0", 0, 6);
        rains("rain 1 m=0;less 99 m=0;rain 1 m=0", 0, 0);
    }

    private void raining() {
        TreeToTree x = says(14, "RAIN n MINUTES (0 .. 60) from now at a TREE (-1: without one).");
        x.tree(0, 1, 0, 0);
        x.tree(2, 3, 0, 0);
        Checks.park(x, "rain 1 m=5;rain 10 h=6;rain 20 t=1;rain 30 h=7");
        due("now", x.rain(-1, 0), 4);
        due("in 5", x.rain(-1, 5), 5);
        due("in 60", x.rain(-1, 60), 14);
        due("at 0", x.rain(0, 60), 14);
        due("at 1", x.rain(1, 60), 34);
        x.go(10);
        due("from 10 on", x.rain(-1, 5), 5);
        due("in 60 from 10 on", x.rain(-1, 60), 34);
        due("in 49 from 10 on", x.rain(1, 49), 24);
        go(x, 989);
        Checks.park(x, "rain 1 h>99&m=5");
        due("at 999", x.rain(-1, 0), 4);
        due("at 1005", x.rain(0, 6), 5);
        due("at 1059", x.rain(1, 60), 4);

        x = says(14, "NONE; BAD.");
        due("no tree yet", x.rain(0, 0), NONE);
        x.tree(0, 0, 0, 0);
        due("tree 1", x.rain(1, 0), NONE);
        due("tree -2", x.rain(-2, 0), NONE);
        due("none ahead of bad", x.rain(1, 61), NONE);
        due("-1", x.rain(0, -1), BAD);
        due("61", x.rain(0, 61), BAD);
        due("-1 without a tree", x.rain(-1, -1), BAD);
        due("61 without a tree", x.rain(-1, 61), BAD);
    }
}
