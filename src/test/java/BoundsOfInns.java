/** Sentence by sentence: THE TAPE, what an INN is, FAULTS, what holds (promises 2, 3, 8, 9). */
final class BoundsOfInns {
    private static final int NONE = FewerMan.NONE, BAD = FewerMan.BAD, FULL = FewerMan.FULL;
    private static final int MIN = Integer.MIN_VALUE, MAX = Integer.MAX_VALUE;
    private static final String DIGITS = "0123456789", NINE = "less 1;less 1;less 1;less 1;less 1;less 1;less 1;less 1;less 1;";

    private BoundsOfInns() {
    }

    static void all() {
        feed();
        tape();
        clauses();
        blanks();
        numbers();
        precedence();
        tests();
        facts();
        open();
        faults();
        cuts();
        fiveInns();
        withoutOne();
        lessAndMore();
        together();
        inn();
    }

    private static FewerMan two() {
        FewerMan x = new FewerMan();
        x.player(0, 0);
        x.player(0, 0);
        return x;
    }

    /** The text is an INN. */
    private static void good(String text) {
        Check.due("\"" + text + "\"", Check.inn(new FewerMan(), text), 0);
    }

    /** The text has its FAULT there, and leaves no INN and an empty tape. */
    private static void fault(String text, int place) {
        FewerMan x = new FewerMan();
        Check.due("\"" + text + "\"", Check.inn(x, text), -10 - place);
        Check.due("INNS behind \"" + text + "\"", x.count(1), 0);
        Check.due("signs behind \"" + text + "\"", x.count(4), 0);
    }

    /** Of all bytes just those may come next: with any other one the FAULT is there, with these it is not. */
    private static void goesOn(String text, String next) {
        for (int sign = 0; sign < 128; sign++) {
            FewerMan x = new FewerMan();
            Check.feed(x, text);
            x.feed(sign);
            int answer = x.inn();
            boolean good = next.indexOf(sign) >= 0;
            String what = "\"" + text + "\" and the byte " + sign;
            if (good) {
                Check.due(what, answer == 0 || answer == -10 - text.length() - 1 ? 1 : 0, 1);
            } else {
                Check.due(what, answer, -10 - text.length());
            }
        }
    }

    private static void feed() {
        Check.sentence("A sign (0 .. 127) comes behind THE TAPE's: how many it has. BAD; FULL.");
        FewerMan x = new FewerMan();
        for (int sign : new int[] {MIN, MIN + 'l', -256, -128, -1, 128, 129, 255, 256 + 'l', 65536 + 'l', MAX}) {
            Check.refused("sign " + sign, x, () -> x.feed(sign), BAD);
        }
        Check.due("0", x.feed(0), 1);
        Check.due("127", x.feed(127), 2);
        for (int i = 3; i <= 100; i++) {
            Check.due("how many", x.feed(i), i);
            Check.due("how many", x.count(4), i);
        }
        Check.refused("FULL", x, () -> x.feed(0), FULL);
        Check.refused("FULL", x, () -> x.feed(127), FULL);
        Check.refused("BAD ahead of FULL", x, () -> x.feed(128), BAD);
        Check.refused("BAD ahead of FULL", x, () -> x.feed(-1), BAD);
        x.inn();
        Check.due("behind an empty tape's", x.feed('l'), 1);
    }

    private static void tape() {
        Check.sentence("An INN is read from THE TAPE (bytes, 100 at most):");
        StringBuilder text = new StringBuilder("lift 1 p=10|p=10");
        for (int i = 0; i < 21; i++) {
            text.append("|p=9");
        }
        Check.due("bytes", text.length(), 100);
        good(text.toString());
        // The last byte counts: the test behind the last | alone holds.
        FewerMan x = two();
        Check.due("INN", Check.inn(x, text.substring(0, 99) + "1"), 0);
        Check.due("PUSH by the last byte", x.push(1, 0), 1);
        Check.due("PUSH by the last byte", x.push(0, 1), 0);
        fault(text.substring(0, 99) + "x", 99);
        fault(text.substring(0, 96) + "&p=!", 99);
        fault("less 1;" + text.substring(0, 93), 100);
        FewerMan y = new FewerMan();
        Check.feed(y, text.toString());
        Check.refused("101 bytes", y, () -> y.feed('9'), FULL);
        Check.due("100 bytes", y.inn(), 0);
    }

    private static void clauses() {
        Check.sentence("CLAUSES, 10 at most, with ; between:");
        good("less 1");
        good(NINE + "less 1");
        good(NINE + "lift 9 p=0|k=1");
        fault(NINE + "less 1;", 69);
        fault(NINE + "less 1;less 1", 69);
        fault(NINE + "lift 9 p=0;", 73);
        fault(NINE, 63);
        goesOn(NINE + "less 12", "");
        goesOn(NINE + "lift 1 p=12", "|&");
        goesOn(NINE.substring(7) + "less 12", ";");
        fault("", 0);
        fault(";", 0);
        fault("less 1;", 7);
        fault(";less 1", 0);
        fault("less 1;;less 1", 7);
        fault("less 1 ;less 1", 6);
        fault("less 1; less 1", 7);
        fault("less 1,less 1", 6);
        FewerMan x = two();
        Check.due("INN", Check.inn(x, NINE + "lift 9 p=0"), 0);
        Check.due("the tenth CLAUSE", x.push(0, 1), 9);
        Check.due("INN", Check.inn(x, "lift 9 p=0;" + NINE.substring(7) + "more 7"), 1);
        Check.due("the first CLAUSE", x.push(0, 1), 9);
        Check.due("the tenth CLAUSE", x.told(2), 7);
    }

    private static void blanks() {
        Check.sentence("lift n E; duck n E; less n; more n (one blank ahead of each part behind the word;");
        for (String word : new String[] {"lift", "duck", "less", "more"}) {
            fault(" " + word + " 1 p=0", 0);
            goesOn(word, " ");
            goesOn(word + " ", DIGITS);
            fault(word + "1", 4);
            fault(word + "  1", 5);
            fault(word + "\t1", 4);
        }
        for (String word : new String[] {"lift", "duck"}) {
            good(word + " 1 p=0");
            fault(word + " 1", 6);
            fault(word + " 1;less 1", 6);
            fault(word + " 1p=0", 6);
            fault(word + " 1  p=0", 7);
            fault(word + " 1 p=0 ", 10);
            fault(word + " 1 p =0", 8);
            fault(word + " 1 p= 0", 9);
            fault(word + " 1 p=0 &p=0", 10);
            fault(word + " 1 p=0& p=0", 11);
            fault(word + " 1 ! p=0", 8);
            fault(word + " 1 ( p=0)", 8);
            fault(word + " 1 (p=0 )", 11);
        }
        for (String word : new String[] {"less", "more"}) {
            good(word + " 1");
            fault(word + " 1 ", 6);
            fault(word + " 1 p=0", 6);
        }
        goesOn("", "ldm");
        goesOn("l", "ie");
        goesOn("li", "f");
        goesOn("lif", "t");
        goesOn("le", "s");
        goesOn("les", "s");
        goesOn("d", "u");
        goesOn("du", "c");
        goesOn("duc", "k");
        goesOn("m", "o");
        goesOn("mo", "r");
        goesOn("mor", "e");
        goesOn("less 1;", "ldm");
    }

    private static void numbers() {
        Check.sentence("n 1 or 2 digits, no 0 ahead of another).");
        for (int n = 0; n <= 99; n++) {
            FewerMan x = two();
            Check.due("less " + n, Check.inn(x, "less " + n + ";more " + (99 - n)), 0);
            Check.due("less " + n, x.told(1), n);
            Check.due("more", x.told(2), 99 - n);
            Check.due("lift " + n, Check.inn(x, "lift " + n + " p=0;duck " + n + " p=1"), 1);
            Check.due("lift " + n, x.push(0, 1), n);
            Check.due("duck " + n, x.push(1, 0), -n);
        }
        for (String word : new String[] {"less ", "more ", "lift ", "duck "}) {
            String next = word.equals("less ") || word.equals("more ") ? ";" : " ";
            goesOn(word + "0", next);
            goesOn(word + "1", DIGITS + next);
            goesOn(word + "9", DIGITS + next);
            goesOn(word + "10", next);
            goesOn(word + "99", next);
        }
    }

    private static void precedence() {
        Check.sentence("E: T, or T|E. T: F, or F&T. F: !F, (E), or a TEST:");
        for (int bits = 0; bits < 16; bits++) {
            boolean a = (bits & 1) != 0;
            boolean b = (bits & 2) != 0;
            boolean c = (bits & 4) != 0;
            boolean d = (bits & 8) != 0;
            holds("a", bits, a);
            holds("!a", bits, !a);
            holds("!!a", bits, a);
            holds("!!!!!a", bits, !a);
            holds("(a)", bits, a);
            holds("a|b", bits, a || b);
            holds("a&b", bits, a && b);
            holds("a|b&c", bits, a || b && c);
            holds("a&b|c", bits, a && b || c);
            holds("a&b|c&d", bits, a && b || c && d);
            holds("a|b&c|d", bits, a || b && c || d);
            holds("(a|b)&c", bits, (a || b) && c);
            holds("a&(b|c)", bits, a && (b || c));
            holds("(a|b)&(c|d)", bits, (a || b) && (c || d));
            holds("!a|b", bits, !a || b);
            holds("!a&b", bits, !a && b);
            holds("!(a|b)", bits, !(a || b));
            holds("!(a&b)|c", bits, !(a && b) || c);
            holds("a|!b&c", bits, a || !b && c);
            holds("a&!(b|c&!d)", bits, a && !(b || c && !d));
            holds("a|b|c|d", bits, a || b || c || d);
            holds("a&b&c&d", bits, a && b && c && d);
            holds("!(!(a&b)&c)|!d", bits, !(!(a && b) && c) || !d);
            holds("((((a|b))&c))|d", bits, (a || b) && c || d);
        }
    }

    private static void holds(String shape, int bits, boolean want) {
        String[][] tests = {{"<9", ">8"}, {">0", "<1"}, {"<9", "=9"}};
        for (String[] test : tests) {
            holds(shape, bits, want, test[0], test[1]);
        }
    }

    /** a, b, c, d: bits, each as one test of player 1, of KIND 1, with 8 MEN against one with 8. */
    private static void holds(String shape, int bits, boolean want, String yes, String no) {
        StringBuilder text = new StringBuilder("lift 7 ");
        for (char sign : shape.toCharArray()) {
            int at = "abcd".indexOf(sign);
            if (at < 0) {
                text.append(sign);
            } else {
                text.append(new String[] {"p", "k", "m", "o"}[at]);
                text.append((bits >> at & 1) != 0 ? yes : no);
            }
        }
        FewerMan x = new FewerMan();
        x.player(0, 0);
        x.player(1, 0);
        Check.due("INN " + text, Check.inn(x, text.toString()), 0);
        Check.due("PUSH by " + text, x.push(1, 0), want ? 7 : 0);
    }

    private static void tests() {
        Check.sentence("p or k or m or o or g, one of < = >, a number likewise:");
        goesOn("lift 1 ", "pkmog!(");
        for (char about : "pkmog".toCharArray()) {
            goesOn("duck 1 " + about, "<=>");
            for (char comparison : "<=>".toCharArray()) {
                String test = "lift 1 " + about + comparison;
                goesOn(test, DIGITS);
                goesOn(test + "0", "|&;");
                goesOn(test + "1", DIGITS + "|&;");
                goesOn(test + "99", "|&;");
            }
        }
    }

    private static void facts() {
        Check.sentence("of a player against another one p its number, k its KIND, m its MEN, o MEN of the other one, "
            + "g GAME modulo 10.");
        FewerMan x = new FewerMan();
        int[] kinds = {0, 6, 2, 1, 5};
        for (int kind : kinds) {
            x.player(kind, 9);
        }
        int[] men = {1, 20, 9, 10, 11};
        for (int i = 0; i < 5; i++) {
            x.men(i, men[i]);
        }
        x.image();
        for (int one = 0; one < 5; one++) {
            int other = (one + 2) % 5;
            fact(x, one, other, 'p', one);
            fact(x, one, other, 'k', kinds[one]);
            fact(x, one, other, 'm', men[one]);
            fact(x, one, other, 'o', men[other]);
        }
        for (int kind = 0; kind <= 6; kind++) {
            FewerMan y = new FewerMan();
            y.player(0, 0);
            y.player(kind, 0);
            y.image();
            fact(y, 1, 0, 'k', kind);
        }
        FewerMan y = two();
        for (int game = 0; game <= 31; game++) {
            y.image();
            fact(y, 0, 1, 'g', game % 10);
            y.play(1, 0, true);
        }
    }

    /** Behind each look the image is brought back, so that INNS never are too many. */
    private static void fact(FewerMan x, int one, int other, char about, int value) {
        x.undo();
        int without = x.push(one, other);
        for (int n : new int[] {0, value - 1, value, value + 1, 19, 20, 21, 99}) {
            if (n >= 0) {
                Check.inn(x, "lift 50 " + about + "<" + n + ";lift 20 " + about + "=" + n + ";lift 30 " + about + ">" + n);
                int want = value < n ? 50 : value == n ? 20 : 30;
                Check.due(about + " of " + one + " against " + other + " by " + n, x.push(one, other) - without, want);
                x.undo();
            }
        }
    }

    private static void open() {
        Check.sentence("At most 5 of ! and ( are open (a ( till its ) , a ! till its F ends).");
        good("lift 1 !!!!!p=0");
        fault("lift 1 !!!!!!p=0", 12);
        good("lift 1 (((((p=0)))))");
        fault("lift 1 ((((((p=0))))))", 12);
        good("lift 1 !(!(!p=0))");
        fault("lift 1 !(!(!(p=0)))", 12);
        fault("lift 1 !(!(!!p=0))", 12);
        good("lift 1 (!(!(p=0)))");
        fault("lift 1 (!(!((p=0))))", 12);
        for (String five : new String[] {"!!!!!", "(((((", "!!(((", "(!(!(", "((!!!", "!(p=0&((!", "(p=0|!!!!"}) {
            goesOn("lift 1 " + five, "pkmog");
        }
        for (String four : new String[] {"!!!!", "((((", "!(!(", "((p=0|!!", "!!!p=1&!!!!"}) {
            goesOn("lift 1 " + four, "pkmog!(");
        }
        // A ( is open no more behind its ), a ! no more where its F ends.
        goesOn("lift 1 (((((p=0)", "|&)");
        goesOn("lift 1 (((((p=0)&", "pkmog!(");
        goesOn("lift 1 (((((p=0)&(", "pkmog");
        goesOn("lift 1 !!!!!p=0&", "pkmog!(");
        goesOn("lift 1 !!!!!p=0|!!!!", "pkmog!(");
        goesOn("lift 1 !!!!!p=0|!!!!!", "pkmog");
        goesOn("lift 1 !!!!(p=0", "|&)");
        goesOn("lift 1 !!!!(p=0&", "pkmog");
        goesOn("lift 1 !!!!(p=0)&", "pkmog!(");
        goesOn("lift 1 (!!!!p=0&", "pkmog!(");
        goesOn("lift 1 (!!!!p=0&!!!", "pkmog!(");
        goesOn("lift 1 (!!!!p=0&!!!!", "pkmog");
        goesOn("lift 1 !(!!!p=0&!!!", "pkmog");
        goesOn("lift 1 !(p=0)&!!!!", "pkmog!(");
        good("lift 1 !!!!!p=0&!!!!!p=1|(((((p=2)))))&!(!(!p=3&!p=4))");
        good("lift 1 !!!!!p=0;duck 1 (((((p=0)))));lift 1 !!!!!p=0");
        good("lift 1 (p=0)&(p=0)&(p=0)&(p=0)&(p=0)&(p=0)&(p=0)&!p=0&!p=0&!p=0&!p=0&!p=0&!p=0&!p=0");
        // Each ( has its ), and none comes without one.
        goesOn("lift 1 p=12", "|&;");
        goesOn("lift 1 (p=12", "|&)");
        goesOn("lift 1 ((p=12)", "|&)");
        goesOn("lift 1 ((p=12))", "|&;");
        goesOn("lift 1 !(p=12", "|&)");
        goesOn("lift 1 !(p=12)", "|&;");
        goesOn("lift 1 (", "pkmog!(");
        goesOn("lift 1 !", "pkmog!(");
        goesOn("lift 1 p=0&", "pkmog!(");
        goesOn("lift 1 p=0|", "pkmog!(");
        FewerMan x = two();
        Check.inn(x, "lift 1 !!!!!p=1;lift 2 (((((p=0)))));lift 4 !(!(!p=0));lift 8 !(!(!p=1))");
        Check.due("five open", x.push(0, 1), 1 + 2 + 8);
    }

    private static void faults() {
        Check.sentence("FAULT: the place of the first byte with which no INN can go on (the size, if it ends too "
            + "early).");
        fault("x", 0);
        fault("?less 1", 0);
        fault("LESS 1", 0);
        fault("lost 1", 1);
        fault("lessen 1", 4);
        fault("less 1x;?", 6);
        fault("less 00;x", 6);
        fault("less 100", 7);
        fault("lift 1 q=0", 7);
        fault("lift 1 p-0", 8);
        fault("lift 1 p=-1", 9);
        fault("lift 1 p=0)", 10);
        fault("lift 1 (p=0;less 1", 11);
        fault("lift 1 p=0&&p=0", 11);
        fault("lift 1 ()", 8);
        fault("lift 1 p<=1", 9);
        fault("lift 1 0=p", 7);
        // What would be wrong later on is not looked at.
        fault("less x;less y", 5);
        FewerMan x = new FewerMan();
        for (int i = 0; i < 100; i++) {
            x.feed(0);
        }
        Check.due("all bytes 0", x.inn(), -10);
        good("lift 0 p=0");
        fault("less 1\0", 6);
    }

    /** Each beginning of an INN ends too early, but those that are INNS themselves. */
    private static void cuts() {
        String whole = "lift 12 !(p=1|k<10)&m>3|!!o=20;less 10;duck 0 ((g=9));more 7";
        String ends = "lift 12 !(p=1|k<10);lift 12 !(p=1|k<10)&m>3;lift 12 !(p=1|k<10)&m>3|!!o=2;"
            + "lift 12 !(p=1|k<10)&m>3|!!o=20";
        for (int size = 0; size <= whole.length(); size++) {
            String cut = whole.substring(0, size);
            boolean is = size == whole.length() || cut.endsWith(";less 1") || cut.endsWith(";less 10")
                || cut.endsWith("((g=9))");
            for (String end : ends.split(";")) {
                is |= cut.equals(end);
            }
            if (is) {
                good(cut);
            } else {
                fault(cut, size);
            }
            fault(cut + "?", size);
        }
    }

    private static void fiveInns() {
        Check.sentence("INNS are numbered from 0 on, 5 at most; the newest one holds;");
        FewerMan x = two();
        for (int i = 0; i < 5; i++) {
            Check.due("its number", Check.inn(x, "lift " + (i + 3) + " p=0;less " + i), i);
            Check.due("how many", x.count(1), i + 1);
            Check.due("the newest one's less", x.told(1), i);
            Check.due("the newest one's lift", x.push(0, 1), i + 3);
            Check.due("a FAULT", Check.inn(x, "lift 99 p=0;less 77 "), i < 4 ? -10 - 19 : FULL);
            Check.due("the one that held holds", x.told(1), i);
            Check.due("the one that held holds", x.push(0, 1), i + 3);
            Check.due("how many", x.count(1), i + 1);
        }
        Check.due("five", x.count(1), 5);
    }

    private static void withoutOne() {
        Check.sentence("without one there are no CLAUSES.");
        FewerMan x = two();
        Check.due("PUSH", x.push(0, 1), 0);
        Check.due("less", x.told(1), 1);
        Check.due("more", x.told(2), 1);
        x.image();
        Check.inn(x, "lift 9 p=0;less 2;more 3");
        Check.due("PUSH", x.push(0, 1), 9);
        x.undo();
        Check.due("PUSH", x.push(0, 1), 0);
        Check.due("less", x.told(1), 1);
        Check.due("more", x.told(2), 1);
        Check.due("INNS", x.count(1), 0);
        Check.due("a FAULT", Check.inn(x, "less 5;more 6;"), -24);
        Check.due("less", x.told(1), 1);
        Check.due("more", x.told(2), 1);
    }

    private static void lessAndMore() {
        Check.sentence("less, more (1 each without): the last n.");
        // The text, less, more
        String[][] inns = {{"lift 5 p=0", "1", "1"}, {"less 2", "2", "1"}, {"more 2", "1", "2"},
            {"less 0", "0", "1"}, {"more 0", "1", "0"}, {"less 99;more 98", "99", "98"},
            {"less 2;less 3", "3", "1"}, {"more 3;more 2", "1", "2"}, {"less 4;less 0", "0", "1"},
            {"more 9;less 5;more 0;less 6;lift 7 p=0;duck 8 p=0", "6", "0"},
            {"less 2;less 3;less 4;less 5;less 6;less 7;less 8;less 9;less 10;less 11", "11", "1"},
            {"more 2;more 3;more 4;more 5;more 6;more 7;more 8;more 9;more 10;more 11", "1", "11"}};
        for (String[] inn : inns) {
            FewerMan x = two();
            // What an earlier one told is nothing to the newest one.
            Check.inn(x, "less 31;more 32");
            Check.due(inn[0], Check.inn(x, inn[0]), 1);
            Check.due("less of " + inn[0], x.told(1), Integer.parseInt(inn[1]));
            Check.due("more of " + inn[0], x.told(2), Integer.parseInt(inn[2]));
        }
    }

    private static void together() {
        Check.sentence("PUSH of a player against another one: the n of all lift whose E holds, less those of all "
            + "duck, and v, together.");
        String many = "";
        for (int i = 0; i < 8; i++) {
            many += (i == 0 ? "" : ";") + "lift 99 p=0";
        }
        FewerMan x = new FewerMan();
        x.player(0, 9);
        x.player(2, 0);
        x.men(1, 1);
        Check.due("INN", Check.inn(x, many), 0);
        Check.due("the most", x.push(0, 1), 8 * 99 + 9);
        Check.due("of the other one", x.push(1, 0), -9);
        Check.due("INN", Check.inn(x, many.replace("lift 99 p=0", "duck 99 p=1")), 1);
        Check.due("the least", x.push(1, 0), -8 * 99 - 9);
        Check.due("of the other one", x.push(0, 1), 9);
        Check.due("INN", Check.inn(x, "lift 0 p=0;duck 0 p=0;lift 7 p=0;lift 7 p=0;duck 3 p=0;lift 50 p=1"), 2);
        Check.due("the same n twice", x.push(0, 1), 9 + 14 - 3);
        Check.due("of the other one", x.push(1, 0), 50 - 9);
        Check.due("INN", Check.inn(x, "lift 5 p>4;duck 5 p>4"), 3);
        Check.due("none holds", x.push(0, 1), 9);
    }

    private static void inn() {
        Check.sentence("THE TAPE, which is empty then (by a FAULT, too), is an INN, and holds: its number; -10 less "
            + "the FAULT (the one that held holds). FULL (ahead of all; THE TAPE stays).");
        FewerMan x = two();
        Check.due("an empty tape", x.inn(), -10);
        Check.due("the first", Check.inn(x, "less 3"), 0);
        Check.due("the tape", x.count(4), 0);
        Check.due("an empty tape", x.inn(), -10);
        Check.due("the one that held holds", x.told(1), 3);
        Check.due("a FAULT", Check.inn(x, "less 4;"), -17);
        Check.due("the tape", x.count(4), 0);
        Check.due("the one that held holds", x.told(1), 3);
        Check.due("INNS", x.count(1), 1);
        for (int i = 1; i < 4; i++) {
            Check.due("its number", Check.inn(x, "less " + i), i);
        }
        Check.feed(x, "less 8");
        x.image();
        Check.due("the fifth", x.inn(), 4);
        Check.due("the tape", x.count(4), 0);
        Check.refused("FULL with an empty tape", x, x::inn, FULL);
        Check.feed(x, "more 2");
        Check.refused("FULL", x, x::inn, FULL);
        Check.due("the tape stays", x.count(4), 6);
        Check.due("more signs", x.feed('?'), 7);
        Check.refused("FULL ahead of a FAULT", x, x::inn, FULL);
        Check.due("the tape stays", x.count(4), 7);
        Check.due("the fifth holds", x.told(1), 8);
        Check.due("more", x.told(2), 1);
        x.undo();
        Check.due("the tape that stayed in the image", x.inn(), 4);
        Check.due("the fifth", x.told(1), 8);
    }
}
