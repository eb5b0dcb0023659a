/** Promises 18 to 28: what is judged, the habits of hands, and what is checked again, at the bounds. */
final class JudgeBounds {
    private JudgeBounds() {
    }

    static void run() {
        letter();
        letterRefused();
        state();
        stateRefused();
        reason();
        reasonRefused();
        ruled();
        ruledRefused();
        first();
        firstRefused();
        doubles();
        doublesRefused();
        many();
        manyRefused();
        habit();
        habitRefused();
        habitHidden();
        harshest();
        harshestNone();
        size();
        sizeRefused();
        sizeBehindAHeap();
        recheck();
        recheckRefused();
    }

    private static void letter() {
        Due.sentence("Promise 18", "A letter's number (its byte) of an ENVELOPE as known in q.");
        PostVotes x = House.some();
        int[] due = {10, 1, -1, 3, -1, -1, -1, -1, -1, -1, 0, 1, 2, 1, 0, 3, 0};
        for (int i = 0; i < due.length; i++) {
            Due.is("letter " + House.LETTERS.charAt(i), Due.letter(x, 0, House.LETTERS.charAt(i), 10), due[i]);
        }
        int[] then = {4, 1, -1, 3, -1, -1, -1, -1, -1, -1, 0, 1, 0, 0, 0, 2, 0};
        for (int i = 0; i < then.length; i++) {
            Due.is("letter " + House.LETTERS.charAt(i) + " in 4", Due.letter(x, 0, House.LETTERS.charAt(i), 4), then[i]);
        }
    }

    private static void letterRefused() {
        Due.sentence("Promise 18", "NoSuchElementException: no such ENVELOPE, letter, q, or it was not SENT by then.");
        Refused.each("letter(#, t, 10)", -1000, new int[] {-1, 8, 200}, (x, n) -> Due.letter(x, n, 't', 10));
        Refused.each("letter(0, t, #)", -1000, new int[] {-1, 0, 3, 11, 401}, (x, n) -> Due.letter(x, 0, 't', n));
        Refused.each("letter(0, #, 10)", -1000, new int[] {-1, 0, 32, 'a', 'd', 'g', 'h', 'j', 'q', 'u', 'v', 'w', 'T', '`', '{', 255, 't' + 256, 't' + 65536},
            (x, n) -> Due.letter(x, 0, n, 10));
        for (int letter = 0; letter < 256; letter++) {
            PostVotes x = House.under("1=1?g", 0);
            x.send(0, 0, 0);
            boolean is = House.LETTERS.indexOf((char) letter) >= 0;
            Due.is("letter " + letter, Due.letter(x, 0, letter, 0) == -1000 ? 0 : 1, is ? 1 : 0);
        }
        Refused.as("letter(0, t, 3), SENT on 4", -1000, x -> Due.letter(x, 0, 't', 3));
        Due.is("letter(0, t, 4), SENT on 4", Due.letter(House.some(), 0, 't', 4), 4);
        Due.is("letter(7, t, 10), the last one", Due.letter(House.some(), 7, 't', 10), 10);
    }

    private static void state() {
        Due.sentence("Promise 19", "STATE.");
        PostVotes x = House.some();
        int[] due = {2, 4, 2, 1, 2, 0, 0, 0};
        for (int i = 0; i < due.length; i++) {
            Due.is("state(" + i + ", 10)", x.state(i, 10), due[i]);
        }
        int[] then = {2, 4, 3, 0, 0, -1, -1, -1};
        for (int i = 0; i < then.length; i++) {
            Due.is("state(" + i + ", 4)", x.state(i, 4), then[i]);
        }
    }

    private static void stateRefused() {
        Due.sentence("Promise 19", "NONE: also for no such ENVELOPE, q.");
        Refused.each("state(#, 10)", -1, new int[] {-1, 8, 200}, (x, n) -> x.state(n, 10));
        Refused.each("state(0, #)", -1, new int[] {-1, 0, 3, 11, 401}, (x, n) -> x.state(0, n));
        Due.is("SENT on 10", House.some().state(7, 10), 0);
        Refused.none("state(7, 9), SENT on 10", x -> x.state(7, 9));
    }

    private static void reason() {
        Due.sentence("Promise 20", "The reason, if it is VOID.");
        Object[][] rows = {{"v0", 0}, {"v1", 1}, {"v9999", 9999}, {"v0007", 7}, {"v9990", 9990}, {"v9991", 9991}, {"c-1", 9990}};
        for (Object[] row : rows) {
            PostVotes x = House.under("1=1?" + row[0], 0);
            House.come(x, 0, 0, 0);
            Due.is("VOID by " + row[0], x.state(0, 0), 4);
            Due.is("reason by " + row[0], x.reason(0, 0), (Integer) row[1]);
        }
        PostVotes x = House.under("1=2?g", 0);
        House.come(x, 0, 0, 0);
        Due.is("no RULE holds", x.reason(0, 0), 9991);
    }

    private static void reasonRefused() {
        Due.sentence("Promise 20", "NONE: it is not, likewise.");
        Refused.each("reason(#, 10)", -1, new int[] {-1, 8, 200}, (x, n) -> x.reason(n, 10));
        Refused.each("reason(1, #)", -1, new int[] {-1, 0, 3, 11, 401}, (x, n) -> x.reason(1, n));
        Due.is("VOID, SENT on 4", House.some().reason(1, 4), 5);
        for (int i : new int[] {0, 2, 3, 4, 5, 7}) {
            Refused.none("reason(" + i + ", 10), not VOID", x -> x.reason(i, 10));
        }
        PostVotes x = House.under("1=1?w;1=1?v3", 0);
        House.come(x, 0, 0, 0);
        Due.is("one that WAITS", x.reason(0, 0), -1);
        PostVotes y = new PostVotes();
        y.voter(0, 0, 0);
        House.come(y, 0, 0, 0);
        Due.is("one without LAW", y.reason(0, 0), -1);
    }

    private static void ruled() {
        Due.sentence("Promise 21", "The RULE (0 the first) of its LAW by which it was judged.");
        PostVotes x = House.under("c=0?g;c=1?w;c=2?v7;c=3?c9;c=4?c0", 5);
        for (int i = 0; i < 5; i++) {
            House.come(x, 0, 0, i);
            Due.is("ruled(" + i + ", 5)", x.ruled(i, 5), i);
            Due.is("its STATE", x.state(i, 5), new int[] {2, 3, 4, 3, 4}[i]);
        }
        PostVotes y = House.under("1=1?g;1=1?w", 0);
        House.come(y, 0, 0, 0);
        Due.is("the first that holds", y.ruled(0, 0), 0);
    }

    private static void ruledRefused() {
        Due.sentence("Promise 21", "NONE: none, likewise.");
        Refused.each("ruled(#, 10)", -1, new int[] {-1, 8, 200}, (x, n) -> x.ruled(n, 10));
        Refused.each("ruled(0, #)", -1, new int[] {-1, 0, 3, 11, 401}, (x, n) -> x.ruled(0, n));
        Due.is("SENT on 4", House.some().ruled(0, 4), 2);
        Refused.none("ruled(3, 10), LOST", x -> x.ruled(3, 10));
        Refused.none("ruled(5, 10), OUT", x -> x.ruled(5, 10));
        PostVotes x = House.under("1=2?g", 0);
        House.come(x, 0, 0, 0);
        Due.is("no RULE holds", x.ruled(0, 0), -1);
        PostVotes y = new PostVotes();
        y.voter(0, 0, 0);
        House.come(y, 0, 0, 0);
        Due.is("no LAW", y.ruled(0, 0), -1);
    }

    private static void first() {
        Due.sentence("Promise 22", "FIRST of a VOTER as known in q.");
        PostVotes x = House.under("1=1?g", 4);
        x.send(0, 0, 0);
        x.send(0, 0, 0);
        x.event(1, 2, 4, 0);
        x.days(1);
        x.event(0, 2, 4, 0);
        Due.is("as known in 4", x.first(0, 4), 1);
        Due.is("as known in 5", x.first(0, 5), 0);
        x.days(395);
        x.event(1, 2, 0, 0);
        Due.is("as known in 399", x.first(0, 399), 0);
        Due.is("as known in 400", x.first(0, 400), 1);
    }

    private static void firstRefused() {
        Due.sentence("Promise 22", "NONE: none, no such ones.");
        Refused.each("first(#, 10)", -1, new int[] {-1, 4, 60}, (x, n) -> x.first(n, 10));
        Refused.each("first(0, #)", -1, new int[] {-1, 0, 3, 11, 401}, (x, n) -> x.first(0, n));
        Due.is("first(0, 4)", House.some().first(0, 4), 0);
        Due.is("first(2, 10)", House.some().first(2, 10), 4);
        Refused.none("first(3, 10), none GOOD", x -> x.first(3, 10));
    }

    private static void doubles() {
        Due.sentence("Promise 23", "How many VOTERS have two GOOD ENVELOPES or more as known in q.");
        PostVotes x = House.under("p=-1?g;1=1?v1", 0);
        Due.is("none", x.doubles(0), 0);
        for (int i = 0; i < 3; i++) {
            x.voter(0, 0, 0);
            House.come(x, i, 0, 0);
        }
        Due.is("one GOOD each", x.doubles(0), 0);
        x.days(1);
        House.come(x, 0, 0, 1);
        Due.is("two of one", x.doubles(1), 1);
        Due.is("as known in 0", x.doubles(0), 0);
        House.come(x, 0, 0, 1);
        Due.is("three of one", x.doubles(1), 1);
        House.come(x, 2, 0, 1);
        Due.is("two of another", x.doubles(1), 2);
        x.event(2, 7, 0, 0);
        Due.is("one of them VOID", x.doubles(1), 1);
        PostVotes y = new PostVotes();
        Due.law(y, 0, "1=1?g");
        for (int i = 0; i < 120; i++) {
            if (i < 60) {
                y.voter(0, 0, 0);
            }
            House.come(y, i % 60, 0, 0);
        }
        Due.is("all 60", y.doubles(0), 60);
    }

    private static void doublesRefused() {
        Due.sentence("Promise 23", "NONE: q.");
        Refused.each("doubles(#)", -1, new int[] {-1, 11, 400, 401}, (x, n) -> x.doubles(n));
        Due.is("doubles(0)", House.some().doubles(0), 0);
        Due.is("doubles(10)", House.some().doubles(10), 0);
    }

    private static void many() {
        Due.sentence("Promise 24", "How many ENVELOPES of a SHIRE (of its VOTER on the DAY on which it comes, else on that on which it was SENT)"
            + " are in a STATE (0 .. 4) as known in q.");
        PostVotes x = House.some();
        // ENVELOPE 4 comes on 6, the DAY ahead of its VOTER's MOVE from SHIRE 1 to 3
        int[][] due = {{2, 1, 2, 0, 1}, {0, 0, 1, 0, 0}, {1, 0, 0, 0, 0}, {0, 0, 0, 0, 0}};
        for (int shire = 0; shire < 4; shire++) {
            for (int state = 0; state < 5; state++) {
                Due.is("many(" + shire + ", " + state + ", 10)", x.many(shire, state, 10), due[shire][state]);
            }
        }
        PostVotes y = House.under("1=1?v1", 9);
        y.move(0, 1, 4);
        y.move(0, 2, 6);
        y.send(0, 3, 0);
        y.send(0, 4, 0);
        y.send(0, 6, 0);
        House.come(y, 0, 3, 4);
        House.come(y, 0, 6, 3);
        int[][] then = {{0, 0, 1}, {4, 0, 1}, {0, 1, 1}, {3, 1, 1}, {0, 2, 1}, {3, 2, 0}, {4, 1, 0}, {1, 0, 0}, {2, 0, 0}};
        for (int[] row : then) {
            Due.is("many(" + row[1] + ", " + row[0] + ", 9)", y.many(row[1], row[0], 9), row[2]);
            Due.is("none as known in 8", y.many(row[1], row[0], 8), 0);
        }
    }

    private static void manyRefused() {
        Due.sentence("Promise 24", "NONE: no such ones.");
        Refused.each("many(#, 0, 10)", -1, new int[] {-1, 4}, (x, n) -> x.many(n, 0, 10));
        Refused.each("many(0, #, 10)", -1, new int[] {-1, 5}, (x, n) -> x.many(0, n, 10));
        Refused.each("many(0, 0, #)", -1, new int[] {-1, 11, 401}, (x, n) -> x.many(0, 0, n));
        Due.is("many(0, 0, 0)", House.some().many(0, 0, 0), 0);
    }

    private static void habit() {
        Due.sentence("Promise 25", "DOUBLES of a HAND (street NONE: all, else of VOTERS of that STREET): what 0 how many, 1 HARSH, 2 SOFT.");
        PostVotes x = House.some();
        // of ENVELOPE 0 (STREET 0) yes, no, yes; of ENVELOPE 2 (STREET 1) no, yes
        int[][] due = {{0, -1, 3, 1, 1}, {0, 0, 2, 0, 1}, {0, 1, 1, -2, -2}, {1, -1, 3, 2, 1}, {1, 0, 2, 2, 0}, {2, -1, 2, 0, 1}, {2, 0, 2, 0, 1}, {2, 1, 0, -2, -2},
            {5, -1, 0, -2, -2}, {0, 9, 0, -2, -2}};
        for (int[] row : due) {
            for (int what = 0; what < 3; what++) {
                Due.is("habit(" + row[0] + ", " + row[1] + ", " + what + ")", x.habit(row[0], row[1], what), row[what + 2]);
            }
        }
    }

    private static void habitRefused() {
        Due.sentence("Promise 25", "NONE: no such ones.");
        Refused.each("habit(#, -1, 0)", -1, new int[] {-1, 6}, (x, n) -> x.habit(n, -1, 0));
        Refused.each("habit(0, #, 0)", -1, new int[] {-2, 10}, (x, n) -> x.habit(0, n, 0));
        Refused.each("habit(0, -1, #)", -1, new int[] {-1, 3}, (x, n) -> x.habit(0, -1, n));
        Due.is("no such one is not HIDDEN", House.some().habit(6, -1, 1), -1);
    }

    private static void habitHidden() {
        Due.sentence("Promise 25", "HIDDEN: 1, 2 of fewer than SIZE.");
        for (int size : new int[] {1, 2, 3, 4}) {
            PostVotes x = new PostVotes();
            x.size(size);
            x.voter(0, 0, 0);
            for (int i = 0; i <= size; i++) {
                x.send(0, 0, 0);
                Due.is("how many, of SIZE " + size, x.habit(3, -1, 0), i);
                Due.is("HARSH of " + i + ", SIZE " + size, x.habit(3, -1, 1), i < size ? -2 : i);
                Due.is("SOFT of " + i + ", SIZE " + size, x.habit(3, -1, 2), i < size ? -2 : 0);
                Due.is("of the STREET: HARSH of " + i, x.habit(3, 0, 1), i < size ? -2 : i);
                x.hand(i, 3, false);
                x.hand(i, 4, true);
            }
        }
    }

    private static void harshest() {
        Due.sentence("Promise 26", "The HAND with the greatest part of HARSH by DOUBLES, of those with SIZE or more; of several the lowest.");
        PostVotes x = new PostVotes();
        x.size(2);
        x.voter(0, 0, 0);
        for (int i = 0; i < 4; i++) {
            x.send(0, 0, 0);
        }
        x.hand(0, 4, false);
        x.hand(0, 5, true);
        Due.is("one DOUBLE each", x.harshest(), -1);
        x.hand(1, 4, true);
        x.hand(1, 5, false);
        Due.is("1 of 2 each: the lowest", x.harshest(), 4);
        x.hand(2, 4, true);
        x.hand(2, 5, true);
        Due.is("1 of 3 each: the lowest", x.harshest(), 4);
        x.hand(3, 4, true);
        x.hand(3, 5, false);
        Due.is("1 of 4 and 2 of 4", x.harshest(), 5);
        x.hand(0, 0, false);
        Due.is("1 of 2 by HAND 0, 2 of 5 by HAND 5", x.harshest(), 0);
        x.hand(3, 0, true);
        Due.is("1 of 4 by HAND 0, 3 of 6 by HAND 5", x.harshest(), 5);
        PostVotes y = new PostVotes();
        y.voter(0, 0, 0);
        // 12 of 25 by HAND 0, 11 of 23 by HAND 2: unlike by less than a five-hundredth
        for (int i = 0; i < 48; i++) {
            y.send(0, 0, 0);
            boolean one = i < 25;
            int of = one ? i : i - 25;
            y.hand(i, one ? 0 : 2, of >= (one ? 12 : 11));
            y.hand(i, one ? 1 : 3, true);
        }
        Due.is("12 of 25 by 11 of 23", y.harshest(), 0);
        y.hand(36, 2, false);
        Due.is("12 of 25 by 12 of 23", y.harshest(), 2);
    }

    private static void harshestNone() {
        Due.sentence("Promise 26", "NONE: there is none.");
        PostVotes x = new PostVotes();
        x.size(1);
        Due.is("no HAND told", x.harshest(), -1);
        x.voter(0, 0, 0);
        x.send(0, 0, 0);
        x.hand(0, 0, false);
        Due.is("no DOUBLE", x.harshest(), -1);
        x.hand(0, 1, false);
        Due.is("none HARSH: the lowest with SIZE", x.harshest(), 0);
        x.size(2);
        Due.is("none with SIZE", x.harshest(), -1);
    }

    private static void size() {
        Due.sentence("Promise 27", "SIZE.");
        PostVotes x = new PostVotes();
        Due.yes("the least", x.size(1));
        x.voter(0, 0, 0);
        House.come(x, 0, 0, 0);
        Due.is("one is enough", x.usual(0, 1), 0);
        Due.yes("the greatest", x.size(50));
        for (int i = 1; i < 50; i++) {
            Due.is("fewer than 50", i == 49 ? x.usual(0, 1) : -2, -2);
            House.come(x, 0, 0, 0);
        }
        Due.is("50 are enough", x.usual(0, 1), 0);
        Due.yes("told again", x.size(50));
        Due.is("as before", x.usual(0, 1), 0);
    }

    private static void sizeRefused() {
        Due.sentence("Promise 27", "False: out of bounds; a HEAP was opened.");
        for (int n : new int[] {-1, 0, 51, 400, Integer.MIN_VALUE, Integer.MAX_VALUE}) {
            PostVotes x = House.counted("1111", 4);
            Due.no("size(" + n + ")", x.size(n));
            Due.is("4 are enough yet: usual", x.usual(1, 1000), 0);
            Due.is("4 are enough yet: open", x.open(0), 0);
            PostVotes y = House.counted("111", 4);
            Due.no("size(" + n + ")", y.size(n));
            Due.is("3 are not enough yet: usual", y.usual(1, 1000), -2);
            Due.is("3 are not enough yet: open", y.open(0), -1);
            Due.yes("no HEAP was opened", y.size(3));
        }
    }

    private static void sizeBehindAHeap() {
        Due.sentence("Promise 27", "a HEAP was opened.");
        Refused.each("size(#) behind a HEAP", 0, new int[] {-1, 0, 1, 2, 3, 49, 50, 51}, (x, n) -> x.size(n) ? 1 : 0);
        PostVotes x = House.counted("111", 4);
        Due.is("a refused OPENING", x.open(0), -1);
        Due.yes("opens no HEAP", x.size(3));
        x.open(0);
        Due.no("a HEAP was opened", x.size(3));
        Due.is("3 are enough yet", x.usual(1, 1), 0);
    }

    private static void recheck() {
        Due.sentence("Promise 28", "ENVELOPE i (0 .. k - 1) of a RECHECK.");
        PostVotes x = House.counted("0123456789", 1);
        Due.is("the only one of one", House.counted("5", 1).recheck(1, 0, 9), 0);
        for (int k = 1; k <= 10; k++) {
            int last = x.recheck(k, k - 1, 3);
            Due.yes("the last of " + k, last >= 0 && last < 10);
            Due.is("behind the last of " + k, x.recheck(k, k, 3), -1);
            Due.is("the first of " + k, x.recheck(k, 0, 3), x.recheck(10, 0, 3));
        }
        Due.is("asked again", x.recheck(5, 4, 3), x.recheck(5, 4, 3));
    }

    private static void recheckRefused() {
        Due.sentence("Promise 28", "NONE: i, k, or there are fewer than k.");
        Refused.each("recheck(#, 0, 1)", -1, new int[] {-1, 0, 4, 50, 51}, (x, n) -> x.recheck(n, 0, 1));
        Refused.each("recheck(2, #, 1)", -1, new int[] {-1, 2, 3, 49}, (x, n) -> x.recheck(2, n, 1));
        PostVotes x = House.counted("11111", 1);
        Due.yes("k of 5", x.recheck(5, 4, 1) >= 0);
        Due.is("fewer than 6", x.recheck(6, 0, 1), -1);
        x.event(4, 4, 0, 0);
        Due.is("fewer than 5 now", x.recheck(5, 0, 1), -1);
        Due.yes("4 of them", x.recheck(4, 3, 1) >= 0);
    }
}
