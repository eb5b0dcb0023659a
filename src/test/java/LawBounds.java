/** Terms, part 2: where a law's text can't go on, what its numbers are bounded by, letters, states, and who is first. */
final class LawBounds {
    private static final String PART = "Terms 2";
    private static final String FIGURES = "0123456789";
    private static final String ATOM = FIGURES + House.LETTERS + "[-";
    private static final String UNIT = ATOM + "!(";
    // behind eight of (, [, ! and -
    private static final String PLAIN = FIGURES + House.LETTERS;

    private LawBounds() {
    }

    static void run() {
        lawOfADay();
        rules();
        conditions();
        units();
        sums();
        atoms();
        verdicts();
        blanks();
        depth();
        depthIsLeft();
        endsTooEarly();
        fifthDigit();
        ninth();
        bounded();
        boundedStepByStep();
        daysOfLetters();
        lettersByNow();
        letterI();
        letterS();
        lettersYZ();
        letterN();
        lettersEK();
        statesNotJudged();
        ruleThatHolds();
        cures();
        noRuleNoLaw();
        firsts();
        counted();
    }

    private static int fault(String text) {
        return Due.fault(new PostVotes(), text);
    }

    /** Of all bytes just the ones named, and blanks, may stand behind a text that can go on. */
    private static void goesOn(String text, String bytes) {
        for (int i = 1; i <= 255; i++) {
            boolean can = i == 32 || bytes.indexOf((char) i) >= 0;
            int fault = fault(text + (char) i);
            if (can) {
                Due.yes(text + " goes on with byte " + i + ": " + fault, fault == -1 || fault == text.length() + 1);
            } else {
                Due.is("fault of " + text + " and byte " + i, fault, text.length());
            }
        }
    }

    private static void lawOfADay() {
        Due.sentence(PART, "LAW of a SHIRE: a TEXT from a DAY on, as known: the one from the greatest DAY up to a DAY, of one DAY the one told last.");
        PostVotes x = new PostVotes();
        x.days(2);
        int[][] laws = {{1, 5}, {1, 9}, {1, 7}, {1, 7}, {1, 5}, {2, 0}, {2, 400}};
        for (int i = 0; i < laws.length; i++) {
            Due.feed(x, "1=1?g");
            Due.is("law " + i, x.law(laws[i][0], laws[i][1]), i);
        }
        int[][] due = {{1, 0, -1}, {1, 4, -1}, {1, 5, 4}, {1, 6, 4}, {1, 7, 3}, {1, 8, 3}, {1, 9, 1}, {1, 400, 1}, {2, 0, 5}, {2, 399, 5}, {2, 400, 6},
            {0, 400, -1}, {3, 400, -1}};
        for (int[] row : due) {
            Due.is("law of " + row[0] + " on " + row[1], x.lawful(row[0], row[1], 2), row[2]);
            Due.is("law of " + row[0] + " on " + row[1] + ", not known", x.lawful(row[0], row[1], 1), -1);
        }
        x.days(1);
        Due.feed(x, "1=1?g");
        x.law(1, 9);
        Due.is("told on the next DAY", x.lawful(1, 9, 3), 7);
        Due.is("as known ahead of that", x.lawful(1, 9, 2), 1);
    }

    private static void rules() {
        Due.sentence(PART, "RULES with ; between, one at least: CONDITION ? VERDICT.");
        Due.is("no RULE", fault(""), 0);
        Due.is("one RULE", fault("1=1?g"), -1);
        Due.is("no RULE behind ;", fault("1=1?g;"), 6);
        Due.is("no RULE ahead of ;", fault(";1=1?g"), 0);
        Due.is("no RULE between", fault("1=1?g;;1=1?g"), 6);
        goesOn("1=1?g", ";");
        goesOn("1=1?g;", UNIT);
        StringBuilder text = new StringBuilder("1=2?g");
        while (text.length() < 195) {
            text.append(";1=2?g");
        }
        Due.is("33 RULES", fault(text.toString()), -1);
        PostVotes x = House.under(text.substring(0, 191) + ";t=0?w", 0);
        House.come(x, 0, 0, 0);
        Due.is("the last of 33", x.ruled(0, 0), 32);
        PostVotes y = House.under("1=1?w;1=1?v3", 0);
        House.come(y, 0, 0, 0);
        Due.is("the first of two", y.ruled(0, 0), 0);
    }

    private static void conditions() {
        Due.sentence(PART, "CONDITION: PARTS with | between; PART: UNITS with & between;");
        goesOn("1=1|", UNIT);
        goesOn("1=1&", UNIT);
        goesOn("1=t", "+-*&|?");
        Object[][] rows = {{"1=2|1=2", 3}, {"1=2|1=1", 2}, {"1=1|1=2", 2}, {"1=2&1=1", 3}, {"1=1&1=2", 3}, {"1=1&1=1", 2}, {"1=1|1=1&1=2", 2},
            {"1=2&1=1|1=1", 2}, {"1=1|1=2&1=2", 2}, {"1=2|1=2|1=1", 2}, {"1=1&1=1&1=2", 3}, {"1=2&1=2|1=2&1=2", 3}};
        for (Object[] row : rows) {
            holds((String) row[0], (Integer) row[1] == 2);
        }
    }

    private static void holds(String condition, boolean does) {
        PostVotes x = House.under(condition + "?g;1=1?w", 0);
        House.come(x, 0, 0, 0);
        Due.is("STATE by " + condition, x.state(0, 0), does ? 2 : 3);
    }

    private static void units() {
        Due.sentence(PART, "UNIT: ! UNIT, ( CONDITION ), or SUM, one of = < > # (unlike), SUM.");
        goesOn("", UNIT);
        goesOn("!", UNIT);
        goesOn("(", UNIT);
        goesOn("(1=t", "+-*&|)");
        goesOn("(1=t)", "&|?");
        goesOn("!(1=t)", "&|?");
        goesOn("((1=t)", "&|)");
        goesOn("((1=t))", "&|?");
        goesOn("t", "+-*=<>#");
        goesOn("1=", ATOM);
        goesOn("1<", ATOM);
        goesOn("1>", ATOM);
        goesOn("1#", ATOM);
        String signs = "=<>#";
        int[][] due = {{0, 1, 0, 1}, {1, 0, 0, 0}, {0, 0, 1, 1}};
        for (int left = 1; left <= 3; left++) {
            for (int i = 0; i < 4; i++) {
                String unit = left + "" + signs.charAt(i) + 2;
                holds(unit, due[left - 1][i] == 1);
                holds("!" + unit, due[left - 1][i] == 0);
                holds("!!(" + unit + ")", due[left - 1][i] == 1);
                holds("-" + left + signs.charAt(i) + "-2", due[3 - left][i] == 1);
            }
        }
        holds("!1=2&1=2", false);
        holds("!(1=2&1=2)", true);
        holds("!1=1|1=1", true);
        holds("!(1=1|1=1)", false);
        holds("!1=2&1=1", true);
        holds("1=1&!1=2&!1=2", true);
    }

    private static void sums() {
        Due.sentence(PART, "SUM: TERMS with + or - between; TERM: ATOMS with * between;");
        goesOn("1+", ATOM);
        goesOn("1-", ATOM);
        goesOn("1*", ATOM);
        goesOn("1=1+", ATOM);
        goesOn("1+t", "+-*=<>#");
        goesOn("1*t", "+-*=<>#");
        String[] same = {"7-2-3=2", "7-2+3=8", "2+3*4=14", "2*3+4=10", "2*3*4=24", "10-2*3=4", "2*3-4*5=-14", "0*9=0", "7=1+2*3", "1-1=0"};
        for (String unit : same) {
            holds(unit, true);
        }
    }

    private static void atoms() {
        Due.sentence(PART, "ATOM: a number (1 to 4 digits), a letter, [ SUM ], or - ATOM.");
        goesOn("1", FIGURES + "+-*=<>#");
        goesOn("12", FIGURES + "+-*=<>#");
        goesOn("123", FIGURES + "+-*=<>#");
        goesOn("1234", "+-*=<>#");
        goesOn("0000", "+-*=<>#");
        goesOn("1=1", FIGURES + "+-*&|?");
        goesOn("1=123", FIGURES + "+-*&|?");
        goesOn("1=1234", "+-*&|?");
        goesOn("[", ATOM);
        goesOn("-", ATOM);
        goesOn("[t", "+-*]");
        goesOn("[12", FIGURES + "+-*]");
        goesOn("[1]", "+-*=<>#");
        goesOn("-t", "+-*=<>#");
        goesOn("1=[1]", "+-*&|?");
        for (int i = 0; i < House.LETTERS.length(); i++) {
            Due.is("letter " + House.LETTERS.charAt(i), fault(House.LETTERS.charAt(i) + "=1?g"), -1);
        }
        String[] same = {"9999=9998+1", "0000=0", "0010=10", "0001=1", "[1+2]*3=9", "2*[1+2]=6", "9-[2-3]=10", "--5=5", "---5=-5", "-[1-3]=2", "2*-3=-6",
            "1--1=2", "[[7]]=7", "-2*-3=6", "-1+2=1"};
        for (String unit : same) {
            holds(unit, true);
        }
    }

    private static void verdicts() {
        Due.sentence(PART, "VERDICT: g, w, v number, or c SUM.");
        goesOn("1=1?", "gwvc");
        goesOn("1=1?w", ";");
        goesOn("1=1?v", FIGURES);
        goesOn("1=1?v1", FIGURES + ";");
        goesOn("1=1?v123", FIGURES + ";");
        goesOn("1=1?v1234", ";");
        goesOn("1=1?c", ATOM);
        goesOn("1=1?ct", "+-*;");
        goesOn("1=1?c1", FIGURES + "+-*;");
        goesOn("1=1?c1234", "+-*;");
        goesOn("1=1?c[1", FIGURES + "+-*]");
        goesOn("1=1?c[1]", "+-*;");
        goesOn("1=1?c-", ATOM);
        goesOn("1=1?c1-", ATOM);
    }

    /** Taken so, too, at both ends of a text. */
    private static void blanks() {
        Due.sentence(PART, "Blanks (32) may stand between all these, not within numbers;");
        String[] pieces = {"!", "(", "t", "+", "12", "*", "[", "-", "k", "]", "<", "3", "|", "1", "#", "2", "&", "1", "=", "1", ")", "?", "v", "12", ";", "1", ">", "0",
            "?", "c", "x", "+", "1", ";", "1", "=", "1", "?", "w"};
        StringBuilder close = new StringBuilder();
        StringBuilder wide = new StringBuilder();
        for (String piece : pieces) {
            close.append(piece);
            wide.append("  ").append(piece);
        }
        Due.is("no blanks", fault(close.toString()), -1);
        Due.is("two blanks between all", fault(wide.toString()), -1);
        Due.is("two blanks at both ends", fault(wide + "  "), -1);
        goesOn("1 ", "+-*=<>#");
        goesOn("12  ", "+-*=<>#");
        goesOn("1=1 ", "+-*&|?");
        goesOn("1=1?v1 ", ";");
        goesOn("1=1?c1 ", "+-*;");
        Due.is("another white byte (9)", fault("1\t=1?g"), 1);
        Due.is("another white byte (160)", fault("1" + (char) 160 + "=1?g"), 1);
        Due.is("blanks alone", fault("   "), 3);
        holds(" 12 = 1 * 12 ", true);
    }

    private static void depth() {
        Due.sentence(PART, "at most eight (, [, ! and - of ATOMS within one another.");
        String[] eight = {"((((((((", "!!!!!!!!", "(!(!(!(!", "[[[[[[[[", "--------", "[-[-[-[-", "!(!([-[-", "(((((((-", "!!!!!!![", "1=[[[[[[[[", "1=--------",
            "((((1=[[[[", "!!!!1=----", "1=1?c[[[[[[[[", "1=1?c--------", "1=1&((((((((", "1=1|!!!!!!!!", "1=1?g;((((((((", "1+--------", "1--------[", "2*[[[[[[[["};
        for (String text : eight) {
            goesOn(text, PLAIN);
            String seven = text.substring(0, text.length() - 1);
            boolean inSum = seven.matches(".*[\\[\\-=]|.*c|.*[+*]");
            goesOn(seven, inSum ? ATOM : UNIT);
        }
    }

    /** What was closed, or stands beside, is no longer around. */
    private static void depthIsLeft() {
        Due.sentence(PART, "at most eight (, [, ! and - of ATOMS within one another.");
        goesOn("((((((((1=1)", "&|)");
        goesOn("((((((((1=1)|", UNIT);
        goesOn("((((((((1=1)|(", PLAIN);
        goesOn("((((((((1=1)|!", PLAIN);
        goesOn("!!!!!!!!1=1&", UNIT);
        goesOn("!!!!!!!!1=1&!!!!!!!!", PLAIN);
        goesOn("!!!!!!!(", PLAIN);
        goesOn("!!!!!!!(1=1)|!!!!!!!", UNIT);
        goesOn("[[[[[[[[1]", "+-*]");
        goesOn("[[[[[[[[1]+", ATOM);
        goesOn("[[[[[[[[1]+[", PLAIN);
        goesOn("--------1-", ATOM);
        goesOn("--------1+--------", PLAIN);
        goesOn("--------1*--------", PLAIN);
        goesOn("--------1=--------", PLAIN);
        goesOn("-[-[-[-[1]", "+-*]");
        goesOn("-[-[-[-[1]*", ATOM);
        goesOn("-[-[-[-[1]*-[", PLAIN);
        goesOn("--------1=1?c--------", PLAIN);
        goesOn("!!!!!!!!1=1?c", ATOM);
        goesOn("((((((((1=1))))))))&((((((((", PLAIN);
        Due.is("eight of each beside the other", fault("!!!!!!!!1=1&((((((((1=1))))))))|[[[[[[[[1]]]]]]]]=--------1?c--------1+[[[[[[[[1]]]]]]]];!!!!!!!!1=1?g"), -1);
    }

    private static void endsTooEarly() {
        Due.sentence(PART, "FAULT: the first byte at which no TEXT can go on (the length, if it ends too early);");
        String text = "!(t+1<[2*-3]|k#0)&1=1?v12;n>0?c x+2;1=1?w";
        PostVotes x = new PostVotes();
        Due.feed(x, text);
        for (int n = text.length(); n >= 0; n--) {
            x.end(n);
            String tail = text.substring(0, n);
            boolean whole = tail.endsWith("?v1") || tail.endsWith("?v12") || tail.endsWith("c x") || tail.endsWith("x+2") || tail.endsWith("?w");
            Due.is("fault of the first " + n + " of " + text, x.fault(), whole ? -1 : n);
        }
        Due.is("the first of two faults", fault("1=1?x;1=1?y"), 4);
        Due.is("a fault at the first byte", fault("?"), 0);
        Due.is("a fault at the last byte", fault("1=1?gg"), 5);
        Due.is("a fault ahead of an early end", fault("1=)"), 2);
        Due.is("a byte of 255", fault("1=1" + (char) 255), 3);
        Due.is("a capital letter", fault("T=1?g"), 0);
    }

    private static void fifthDigit() {
        Due.sentence(PART, "a fifth digit, a ninth of these are such.");
        Due.is("four digits", fault("1234=1?g"), -1);
        Due.is("a fifth digit", fault("12345=1?g"), 4);
        Due.is("a fifth digit behind noughts", fault("00000=1?g"), 4);
        Due.is("four digits on the right", fault("1=1234?g"), -1);
        Due.is("a fifth digit on the right", fault("1=12345?g"), 6);
        Due.is("four digits of a reason", fault("1=1?v9999"), -1);
        Due.is("a fifth digit of a reason", fault("1=1?v99999"), 9);
        Due.is("four digits of a verdict's SUM", fault("1=1?c9999"), -1);
        Due.is("a fifth digit of a verdict's SUM", fault("1=1?c99999"), 9);
        Due.is("four digits each", fault("[1234+1234]*-1234=1234?c1234+1234"), -1);
        Due.is("a fifth digit within", fault("[1234+12345]=1?g"), 10);
    }

    private static void ninth() {
        Due.sentence(PART, "a fifth digit, a ninth of these are such.");
        Object[][] rows = {{"(((((((((1=1)))))))))?g", 8}, {"!!!!!!!!!1=1?g", 8}, {"[[[[[[[[[1]]]]]]]]]=1?g", 8}, {"---------1=1?g", 8},
            {"1---------1=1?g", -1}, {"1----------1=1?g", 10}, {"!!!!!!!!-1=1?g", 8}, {"((((((((-1=1))))))))?g", 8}, {"!!!!!!!!1=-1?g", 10},
            {"1=1?c---------1", 13}, {"1=1?c1---------1", -1}, {"((((!!!!1=-1))))?g", 10}, {"((((!!!!1=1))))?g", -1}, {"! ! ! ! ! ! ! ! !1=1?g", 16}};
        for (Object[] row : rows) {
            Due.is("fault of " + row[0], fault((String) row[0]), (Integer) row[1]);
        }
    }

    private static void bounded() {
        Due.sentence(PART, "All numbers are bounded: behind each + - * what is above 1,000,000 is that, what is below -1,000,000 is that.");
        // 999*1001 is 999,999, and 1000*1000 the bound itself
        String[] same = {"1000*1000-1=999*1001", "999*1001+1=1000*1000", "999*1001+2=1000*1000", "1000*1000+1=1000*1000", "1000*1001=1000*1000",
            "9999*9999=1000*1000", "[1000*1000]*[1000*1000]=1000*1000", "999*1001<1000*1000", "999*1001-999*1001=0",
            "-999*1001-1=-1000*1000", "-999*1001-2=-1000*1000", "-1000*1000-1=-1000*1000", "-1000*1001=-1000*1000", "-9999*9999=-1000*1000",
            "-[1000*1000]*[1000*1000]=-1000*1000", "[1000*1000]*-[1000*1000]=-1000*1000", "-[1000*1000]*-[1000*1000]=1000*1000",
            "-999*1001>-1000*1000", "0-1000*1000=-1000*1000", "0-1000*1000-1=-1000*1000", "0-1000*1000+1=-999*1001",
            "[0-1000*1000]-[1000*1000]=-1000*1000", "1000*1000-[0-1000*1000]=1000*1000", "1000*1000+1000*1000=1000*1000", "--[1000*1000]=1000*1000"};
        for (String unit : same) {
            holds(unit, true);
            holds(unit.replaceFirst("[=<>]", "#"), !unit.contains("="));
        }
    }

    private static void boundedStepByStep() {
        Due.sentence(PART, "behind each + - * what is above 1,000,000 is that, what is below -1,000,000 is that.");
        String[] same = {"1000*1000+5-5=1000*1000-5", "9999*9999-1=999*1001", "9999*9999*0=0", "9999*9999*-1=-1000*1000", "1000*1000+1000*1000-1000*1000=0",
            "1000*1000+[1000*1000-1000*1000]=1000*1000", "0-9999*9999-1+1=-999*1001", "0-9999*9999+1=-999*1001", "-1000*1000-5+5=5-1000*1000",
            "1000*1000*1000*1000*-1=-1000*1000", "[1000*1001-1]*1=999*1001", "9999*101-9899=1000*1000-9899"};
        for (String unit : same) {
            holds(unit, true);
        }
        // a verdict's SUM is bounded, too: 1,000,000 - 999,999 is 1
        PostVotes x = House.under("1=1?c 1000*1000+5-999*1001", 1);
        House.come(x, 0, 1, 1);
        Due.is("waits on DAY 1", x.state(0, 1), 3);
        x.days(1);
        Due.is("not on DAY 2", x.state(0, 2), 4);
    }

    private static void daysOfLetters() {
        Due.sentence(PART, "m MARK, c the DAY on which it comes, x CURE, l LOST, f FOUND, p SPOIL, r REPLACE, b BOOTH of its VOTER: their DAYS, -1 if there is none known;");
        int[][] kinds = {{'m', 1}, {'c', 2}, {'l', 4}, {'f', 5}, {'x', 6}, {'p', 7}, {'r', 8}, {'b', 0}};
        for (int[] row : kinds) {
            for (int day : new int[] {0, 1, 400}) {
                PostVotes x = House.under((char) row[0] + "=-1?g;1=1?w", 400);
                int other = House.come(x, 0, 0, 0);
                int envelope = x.send(0, 0, 0);
                String call = "letter " + (char) row[0] + " of DAY " + day;
                Due.is(call + ": none known", Due.letter(x, envelope, row[0], 400), -1);
                if (row[0] == 'b') {
                    x.booth(0, day);
                } else {
                    x.event(envelope, row[1], day, 0);
                }
                Due.is(call, Due.letter(x, envelope, row[0], 400), day);
                boolean shared = row[0] == 'b';
                Due.is(call + ": of another ENVELOPE", Due.letter(x, other, row[0], 400), shared ? day : row[0] == 'c' ? 0 : -1);
                Due.is(call + ": in a LAW", x.state(other, 400), shared || row[0] == 'c' ? 3 : 2);
            }
        }
    }

    private static void lettersByNow() {
        Due.sentence(PART, "Letters, of an ENVELOPE as known in q: t: q; o: the DAY it was SENT;");
        PostVotes x = House.under("1=1?g", 0);
        x.send(0, 0, 0);
        Due.is("t on the first DAY", Due.letter(x, 0, 't', 0), 0);
        x.days(400);
        x.send(0, 0, 0);
        x.send(0, 400, 0);
        Due.is("t on the last DAY", Due.letter(x, 0, 't', 400), 400);
        Due.is("t as known in 7", Due.letter(x, 0, 't', 7), 7);
        Due.is("o of the first DAY, told on the last", Due.letter(x, 1, 'o', 400), 0);
        Due.is("o of the last DAY", Due.letter(x, 2, 'o', 400), 400);
    }

    private static void letterI() {
        Due.sentence(PART, "i: 1 if it comes by its BOX, else 0;");
        PostVotes x = House.under("i=1?g;1=1?w", 5);
        x.send(0, 0, 0);
        Due.is("it does not come", Due.letter(x, 0, 'i', 5), 0);
        x.event(0, 3, 2, 0);
        Due.is("DROPPED, not emptied", Due.letter(x, 0, 'i', 5), 0);
        x.empty(0, 2, 1);
        Due.is("by its BOX", Due.letter(x, 0, 'i', 5), 1);
        Due.is("in a LAW", x.state(0, 5), 2);
        x.event(0, 2, 2, 0);
        Due.is("by post on that DAY", Due.letter(x, 0, 'i', 5), 0);
        Due.is("in a LAW then", x.state(0, 5), 3);
    }

    private static void letterS() {
        Due.sentence(PART, "s: in how many figures the SIGN read and the VOTER's are unlike (9 without one read);");
        PostVotes x = House.under("1=1?g", 0);
        x.voter(0, 0, 12_345_678);
        x.send(1, 0, 0);
        Due.is("none read", Due.letter(x, 0, 's', 0), 9);
        int[][] rows = {{12_345_678, 0}, {12_345_679, 1}, {22_345_678, 1}, {12_355_678, 1}, {2_345_678, 1}, {11_345_668, 2}, {87_654_321, 8}, {0, 8},
            {99_999_999, 8}, {12_340_000, 4}, {5678, 4}, {23_456_781, 8}};
        for (int[] row : rows) {
            x.read(0, row[0]);
            Due.is("read " + row[0], Due.letter(x, 0, 's', 0), row[1]);
        }
    }

    private static void lettersYZ() {
        Due.sentence(PART, "y, z: how many HANDS told yes, no;");
        PostVotes x = House.under("y=6?g;z=6?w;1=1?v1", 0);
        House.come(x, 0, 0, 0);
        for (int yes = 0; yes <= 6; yes++) {
            for (int hand = 0; hand < 6; hand++) {
                x.hand(0, hand, hand < yes);
            }
            Due.is("y of " + yes, Due.letter(x, 0, 'y', 0), yes);
            Due.is("z of " + yes, Due.letter(x, 0, 'z', 0), 6 - yes);
            Due.is("in a LAW", x.state(0, 0), yes == 6 ? 2 : yes == 0 ? 3 : 4);
        }
    }

    private static void letterN() {
        Due.sentence(PART, "n: how many other ENVELOPES of its VOTER that come ahead of it (by DAYS, of one DAY by numbers) are GOOD, 0 if it does not come;");
        PostVotes x = House.under("p=-1?g;1=1?v1", 9);
        x.voter(0, 0, 0);
        House.come(x, 0, 0, 4);
        House.come(x, 0, 0, 3);
        House.come(x, 0, 0, 4);
        House.come(x, 0, 0, 5);
        House.come(x, 1, 0, 0);
        x.send(0, 0, 0);
        int[] due = {1, 0, 2, 3, 0, 0};
        for (int i = 0; i < due.length; i++) {
            Due.is("n of " + i, Due.letter(x, i, 'n', 9), due[i]);
        }
        x.event(1, 7, 0, 0);
        int[] then = {0, 0, 1, 2, 0, 0};
        for (int i = 0; i < then.length; i++) {
            Due.is("n of " + i + ", one is not GOOD", Due.letter(x, i, 'n', 9), then[i]);
        }
        x.event(3, 4, 0, 0);
        Due.is("n of one that is LOST", Due.letter(x, 3, 'n', 9), 0);
        PostVotes y = House.under("n=0?g;n=1?g;1=1?v1", 9);
        for (int i = 0; i < 4; i++) {
            House.come(y, 0, 0, 0);
            Due.is("n of one DAY by numbers", Due.letter(y, i, 'n', 9), Math.min(i, 2));
            Due.is("judged by n", y.state(i, 9), i < 2 ? 2 : 4);
        }
        PostVotes z = new PostVotes();
        z.voter(0, 0, 0);
        Due.law(z, 0, "n=199?w;1=1?g");
        for (int i = 0; i < 200; i++) {
            House.come(z, 0, 0, 0);
        }
        Due.is("n of the last of 200", Due.letter(z, 199, 'n', 0), 199);
        Due.is("the last of 200", z.state(199, 0), 3);
    }

    private static void lettersEK() {
        Due.sentence(PART, "e: how many were SENT to its VOTER, as known; k: its STREET.");
        for (int street : new int[] {0, 1, 9}) {
            PostVotes x = new PostVotes();
            x.voter(0, street, 0);
            x.voter(0, 5, 0);
            x.send(0, 0, 0);
            x.send(1, 0, 0);
            Due.is("k", Due.letter(x, 0, 'k', 0), street);
            Due.is("e of one", Due.letter(x, 0, 'e', 0), 1);
            x.days(1);
            x.send(0, 0, 0);
            Due.is("e of two", Due.letter(x, 0, 'e', 1), 2);
            Due.is("e as known ahead of that", Due.letter(x, 0, 'e', 0), 1);
            Due.is("e of the other VOTER", Due.letter(x, 1, 'e', 1), 1);
        }
    }

    private static void statesNotJudged() {
        Due.sentence(PART, "STATE of an ENVELOPE as known in q: NONE (not SENT by then); 0 OUT (it does not come), 1 LOST (LOST and not come);");
        PostVotes x = House.under("1=1?g", 4);
        x.send(0, 0, 0);
        x.days(1);
        Due.is("not SENT by then", x.state(0, 3), -1);
        Due.is("SENT on that DAY", x.state(0, 4), 0);
        Due.is("OUT", x.state(0, 5), 0);
        x.event(0, 5, 5, 0);
        Due.is("FOUND alone", x.state(0, 5), 0);
        x.event(0, 4, 5, 0);
        Due.is("LOST and not come", x.state(0, 5), 1);
        Due.is("OUT as known ahead of that", x.state(0, 4), 0);
        x.event(0, 2, 5, 0);
        Due.is("LOST, FOUND and come", x.state(0, 5), 2);
        x.event(0, 5, 4, 0);
        Due.is("FOUND ahead of LOST", x.state(0, 5), 1);
    }

    private static void ruleThatHolds() {
        Due.sentence(PART, "else by the RULE that is the first whose CONDITION holds, of the LAW of its VOTER's SHIRE on the DAY on which it comes:"
            + " g: 2 GOOD; w: 3 WAITS; v n: 4 VOID, reason n;");
        PostVotes x = House.under("c=1?g;c<3?w;c<4?v0;c<5?v9999;c<6?v0012;c=6?g", 9);
        int[][] due = {{1, 2, -1, 0}, {2, 3, -1, 1}, {3, 4, 0, 2}, {4, 4, 9999, 3}, {5, 4, 12, 4}, {6, 2, -1, 5}};
        for (int[] row : due) {
            int envelope = House.come(x, 0, 0, row[0]);
            Due.is("STATE of one that comes on " + row[0], x.state(envelope, 9), row[1]);
            Due.is("its reason", x.reason(envelope, 9), row[2]);
            Due.is("its RULE", x.ruled(envelope, 9), row[3]);
        }
        PostVotes y = House.under("1=1?v1", 9);
        Due.feed(y, "1=1?v2");
        y.law(0, 5);
        Due.feed(y, "1=1?v3");
        y.law(1, 0);
        y.move(0, 1, 7);
        int[][] reasons = {{0, 1}, {4, 1}, {5, 2}, {6, 2}, {7, 3}, {9, 3}};
        for (int[] row : reasons) {
            int envelope = House.come(y, 0, 0, row[0]);
            Due.is("by the LAW of DAY " + row[0], y.reason(envelope, 9), row[1]);
        }
    }

    private static void cures() {
        Due.sentence(PART, "c D: 2 if its CURE is known and not behind D, else 3 if q is not behind D, else 4, reason 9,990;");
        PostVotes x = House.under("1=1?c 5", 4);
        for (int i = 0; i < 4; i++) {
            House.come(x, 0, 0, 0);
        }
        x.event(0, 6, 4, 0);
        x.days(1);
        x.event(1, 6, 5, 0);
        Due.is("q is D, CURE ahead of D", x.state(0, 5), 2);
        Due.is("q is D, CURE on D", x.state(1, 5), 2);
        Due.is("q is D, no CURE", x.state(2, 5), 3);
        Due.is("its reason", x.reason(2, 5), -1);
        Due.is("its RULE", x.ruled(2, 5), 0);
        Due.is("q ahead of D, CURE not known", x.state(1, 4), 3);
        x.days(1);
        x.event(2, 6, 6, 0);
        Due.is("q behind D, CURE ahead of D", x.state(0, 6), 2);
        Due.is("q behind D, CURE on D", x.state(1, 6), 2);
        Due.is("q behind D, CURE behind D", x.state(2, 6), 4);
        Due.is("reason of that", x.reason(2, 6), 9990);
        Due.is("q behind D, no CURE", x.state(3, 6), 4);
        Due.is("reason of that, too", x.reason(3, 6), 9990);
        Due.is("RULE of that", x.ruled(3, 6), 0);
        Due.is("reason of one that is cured", x.reason(1, 6), -1);
        x.event(2, 6, 0, 0);
        Due.is("CURE told again for a DAY up to D", x.state(2, 6), 2);
        Object[][] rows = {{"-1", 4}, {"0-1", 4}, {"-1000*1000", 4}, {"0", 3}, {"1000*1000", 3}, {"9999", 3}, {"t", 3}, {"t-1", 4}};
        for (Object[] row : rows) {
            PostVotes y = House.under("1=1?c " + row[0], 0);
            House.come(y, 0, 0, 0);
            Due.is("c " + row[0] + " on DAY 0", y.state(0, 0), (Integer) row[1]);
        }
        PostVotes z = House.under("1=1?c 3;1=1?g", 4);
        House.come(z, 0, 0, 0);
        z.event(0, 6, 4, 0);
        Due.is("CURE behind D, q behind D: no other RULE", z.state(0, 4), 4);
    }

    private static void noRuleNoLaw() {
        Due.sentence(PART, "no RULE holds: 4, 9,991; no LAW: 3.");
        PostVotes x = new PostVotes();
        x.voter(0, 0, 0);
        x.days(5);
        Due.feed(x, "1=2?g;1=2?w");
        x.law(0, 3);
        House.come(x, 0, 0, 3);
        House.come(x, 0, 0, 2);
        Due.is("no RULE holds", x.state(0, 5), 4);
        Due.is("its reason", x.reason(0, 5), 9991);
        Due.is("its RULE", x.ruled(0, 5), -1);
        Due.is("no LAW on the DAY ahead of it", x.state(1, 5), 3);
        Due.is("no reason", x.reason(1, 5), -1);
        Due.is("no RULE", x.ruled(1, 5), -1);
    }

    private static void firsts() {
        Due.sentence(PART, "FIRST of a VOTER is, of its GOOD ENVELOPES, the one that comes first (by DAYS, numbers).");
        PostVotes x = House.under("p=-1?g;1=1?v1", 9);
        Due.is("none SENT", x.first(0, 9), -1);
        x.send(0, 0, 0);
        Due.is("none comes", x.first(0, 9), -1);
        x.event(0, 2, 5, 0);
        Due.is("the only one", x.first(0, 9), 0);
        House.come(x, 0, 0, 5);
        Due.is("of one DAY the lower number", x.first(0, 9), 0);
        House.come(x, 0, 0, 4);
        Due.is("the lesser DAY", x.first(0, 9), 2);
        x.event(2, 7, 0, 0);
        Due.is("not GOOD", x.first(0, 9), 0);
        x.event(0, 7, 0, 0);
        x.event(1, 7, 0, 0);
        Due.is("none GOOD", x.first(0, 9), -1);
    }

    private static void counted() {
        Due.sentence(PART, "COUNTED are ENVELOPES that are FIRST of their VOTERS.");
        PostVotes x = House.under("p=-1?g;1=1?v1", 0);
        x.voter(0, 0, 0);
        Due.is("none", x.count(9), 0);
        House.come(x, 0, 0, 0);
        House.come(x, 0, 0, 0);
        Due.is("two of one VOTER", x.count(9), 1);
        House.come(x, 1, 0, 0);
        Due.is("of two VOTERS", x.count(9), 2);
        x.event(0, 7, 0, 0);
        Due.is("the next one is FIRST", x.count(9), 2);
        x.event(2, 7, 0, 0);
        Due.is("one has none GOOD", x.count(9), 1);
        PostVotes y = new PostVotes();
        Due.law(y, 0, "1=1?g");
        for (int i = 0; i < 60; i++) {
            y.voter(0, 0, 0);
            House.come(y, i, 0, 0);
        }
        Due.is("of all 60 VOTERS", y.count(9), 60);
    }
}
