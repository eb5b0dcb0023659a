/** Terms, part 1: the bounds of days, voters, envelopes, events, boxes, signs, hands and booths. */
final class DaysBounds {
    private static final String PART = "Terms 1";

    private DaysBounds() {
    }

    static void run() {
        now();
        toldUpToNow();
        knownUpToNow();
        knownFromItsDay();
        voters();
        shireStreetSign();
        moves();
        envelopes();
        choices();
        events();
        manyEvents();
        toldAgain();
        dropHasABox();
        emptyings();
        firstEmptying();
        comesTwice();
        lostAndFound();
        lostAndFoundByBox();
        sealed();
        sealedOfAll();
        signs();
        hands();
        booths();
    }

    private static void now() {
        Due.sentence(PART, "NOW is 0 at first, 400 at most.");
        PostVotes x = new PostVotes();
        Due.is("NOW at first", x.count(0), 0);
        Due.is("days(399)", x.days(399), 399);
        Due.is("days(2) of 399", x.days(2), -1);
        Due.is("NOW behind a refusal", x.count(0), 399);
        Due.is("days(1) of 399", x.days(1), 400);
        Due.is("days(1) of 400", x.days(1), -1);
        Due.is("NOW at last", x.count(0), 400);
    }

    private static void toldUpToNow() {
        Due.sentence(PART, "DAYS: NOW is 0 at first, 400 at most. All is told NOW, much of it for a DAY up to NOW;");
        for (int now : new int[] {0, 1, 7, 399, 400}) {
            PostVotes x = House.on(now);
            x.voter(0, 0, 0);
            int[] days = {now, 0, now + 1, -1};
            for (int i = 0; i < 4; i++) {
                int day = days[i];
                boolean taken = i < 2;
                Due.is("send for " + day + " on " + now, x.send(0, day, 0), taken ? i : -1);
                Due.is("empty for " + day + " on " + now, x.empty(0, day, 0), taken ? i : -1);
                Due.is("move for " + day + " on " + now, x.move(0, 1, day) ? 1 : 0, taken ? 1 : 0);
                Due.is("booth for " + day + " on " + now, x.booth(0, day) ? 1 : 0, taken ? 1 : 0);
                for (int kind = 1; kind <= 8; kind++) {
                    Due.is("event " + kind + " for " + day + " on " + now, x.event(0, kind, day, 0) ? 1 : 0, taken ? 1 : 0);
                }
            }
            Due.is("sent", x.count(2), 2);
            Due.is("emptied", x.count(4), 2);
            Due.is("events", x.count(3), 16);
        }
    }

    private static void knownUpToNow() {
        Due.sentence(PART, "as known in q (0 .. NOW) only what was told on DAYS up to q counts.");
        for (int now : new int[] {0, 5, 400}) {
            PostVotes x = House.under("1=1?v7", 0);
            House.come(x, 0, 0, 0);
            x.empty(0, 0, 0);
            x.days(now);
            for (int q : new int[] {-1, 0, now, now + 1, Integer.MIN_VALUE, Integer.MAX_VALUE}) {
                boolean taken = q >= 0 && q <= now;
                String at = " as known in " + q + " on " + now;
                Due.is("shire" + at, x.shire(0, 0, q), taken ? 0 : -1);
                Due.is("sealed" + at, x.sealed(0, q), taken ? 0 : -1);
                Due.is("lawful" + at, x.lawful(0, 0, q), taken ? 0 : -1);
                Due.is("letter" + at, Due.letter(x, 0, 't', q), taken ? q : -1000);
                Due.is("state" + at, x.state(0, q), taken ? 4 : -1);
                Due.is("reason" + at, x.reason(0, q), taken ? 7 : -1);
                Due.is("ruled" + at, x.ruled(0, q), taken ? 0 : -1);
                Due.is("doubles" + at, x.doubles(q), taken ? 0 : -1);
                Due.is("many" + at, x.many(0, 4, q), taken ? 1 : -1);
            }
        }
        PostVotes x = House.under("1=1?g", 3);
        House.come(x, 0, 0, 0);
        Due.is("first as known in -1", x.first(0, -1), -1);
        Due.is("first as known in NOW", x.first(0, 3), 0);
        Due.is("first as known behind NOW", x.first(0, 4), -1);
    }

    /** Each thing is told on day 4 for a day ahead of it: not known in 3, known in 4. */
    private static void knownFromItsDay() {
        Due.sentence(PART, "only what was told on DAYS up to q counts.");
        PostVotes x = House.under("1=1?g", 2);
        for (int i = 0; i < 9; i++) {
            x.send(0, 1, 0);
        }
        x.days(2);
        for (int kind = 1; kind <= 8; kind++) {
            x.event(kind, kind, 1, 0);
        }
        x.read(0, 0);
        x.hand(0, 3, true);
        x.hand(0, 4, false);
        x.booth(0, 1);
        x.move(0, 1, 1);
        Due.law(x, 2, "1=1?g");
        x.send(0, 1, 0);
        x.days(2);
        x.empty(0, 1, 1);
        x.days(3);
        String letters = "mc.lfxpr";
        for (int kind = 1; kind <= 8; kind++) {
            char letter = letters.charAt(kind - 1);
            if (letter != '.') {
                Due.is("letter " + letter + " in 3", Due.letter(x, kind, letter, 3), -1);
                Due.is("letter " + letter + " in 4", Due.letter(x, kind, letter, 4), 1);
                Due.is("letter " + letter + " in 9", Due.letter(x, kind, letter, 9), 1);
            }
        }
        Due.is("EMPTYING in 5", Due.letter(x, 3, 'c', 5), -1);
        Due.is("EMPTYING in 6", Due.letter(x, 3, 'c', 6), 1);
        Due.is("EMPTYING in 9", Due.letter(x, 3, 'c', 9), 1);
        Due.is("SEALED in 5", x.sealed(0, 5), -1);
        Due.is("SEALED in 6", x.sealed(0, 6), 0);
        Due.is("SEALED in 9", x.sealed(0, 9), 0);
        int[][] known = {{'s', 9, 0}, {'y', 0, 1}, {'z', 0, 1}, {'b', -1, 1}, {'e', 9, 10}};
        for (int[] row : known) {
            Due.is("letter " + (char) row[0] + " in 3", Due.letter(x, 0, row[0], 3), row[1]);
            Due.is("letter " + (char) row[0] + " in 4", Due.letter(x, 0, row[0], 4), row[2]);
            Due.is("letter " + (char) row[0] + " in 9", Due.letter(x, 0, row[0], 9), row[2]);
        }
        Due.is("SENT in 3", x.state(9, 3), -1);
        Due.is("SENT in 4", x.state(9, 4), 0);
        Due.is("SENT in 9", x.state(9, 9), 0);
        Due.is("MOVE in 3", x.shire(0, 1, 3), 0);
        Due.is("MOVE in 4", x.shire(0, 1, 4), 1);
        Due.is("MOVE in 9", x.shire(0, 1, 9), 1);
        Due.is("LAW in 3", x.lawful(2, 1, 3), -1);
        Due.is("LAW in 4", x.lawful(2, 1, 4), 1);
        Due.is("LAW in 9", x.lawful(2, 1, 9), 1);
    }

    private static void voters() {
        Due.sentence(PART, "VOTERS (60 at most)");
        PostVotes x = new PostVotes();
        for (int i = 0; i < 60; i++) {
            Due.is("voter " + i, x.voter(0, 0, 0), i);
        }
        Due.is("the 61st", x.voter(0, 0, 0), -1);
        Due.is("60 voters", x.count(1), 60);
        Due.is("the last one", x.send(59, 0, 0), 0);
        Due.is("none behind it", x.send(60, 0, 0), -1);
    }

    private static void shireStreetSign() {
        Due.sentence(PART, "VOTERS (60 at most): a SHIRE (0 .. 3), a STREET (0 .. 9), a SIGN (eight figures 0 .. 9, as a number 0 .. 99,999,999).");
        int[][] taken = {{0, 0, 0}, {3, 0, 0}, {0, 9, 0}, {0, 0, 99_999_999}, {3, 9, 99_999_999}};
        int[][] refused = {{-1, 0, 0}, {4, 0, 0}, {0, -1, 0}, {0, 10, 0}, {0, 0, -1}, {0, 0, 100_000_000}};
        PostVotes x = new PostVotes();
        for (int[] row : refused) {
            Due.is("voter " + row[0] + " " + row[1] + " " + row[2], x.voter(row[0], row[1], row[2]), -1);
        }
        for (int i = 0; i < taken.length; i++) {
            Due.is("voter " + taken[i][0] + " " + taken[i][1] + " " + taken[i][2], x.voter(taken[i][0], taken[i][1], taken[i][2]), i);
            x.send(i, 0, 0);
            Due.is("its SHIRE", x.shire(i, 0, 0), taken[i][0]);
            Due.is("its STREET", Due.letter(x, i, 'k', 0), taken[i][1]);
        }
        x.read(0, 10_000_000);
        Due.is("the first of eight figures", Due.letter(x, 0, 's', 0), 1);
        x.read(0, 1);
        Due.is("the last of eight figures", Due.letter(x, 0, 's', 0), 1);
        x.read(3, 0);
        Due.is("eight figures unlike", Due.letter(x, 3, 's', 0), 8);
        x.read(3, 99_999_999);
        Due.is("eight figures alike", Due.letter(x, 3, 's', 0), 0);
    }

    private static void moves() {
        Due.sentence(PART, "A MOVE: to another SHIRE from a DAY on; on a DAY, as known, it is in the SHIRE of the MOVE from the greatest DAY up to it"
            + " (of one DAY the one told last), else as told at first.");
        PostVotes x = new PostVotes();
        x.voter(2, 0, 0);
        x.days(400);
        x.move(0, 1, 5);
        Due.is("the DAY ahead of it", x.shire(0, 4, 400), 2);
        Due.is("its DAY", x.shire(0, 5, 400), 1);
        Due.is("the last DAY", x.shire(0, 400, 400), 1);
        x.move(0, 3, 7);
        x.move(0, 0, 6);
        Due.is("a lesser DAY told later", x.shire(0, 6, 400), 0);
        Due.is("the greater DAY told ahead", x.shire(0, 7, 400), 3);
        x.move(0, 2, 7);
        x.move(0, 3, 5);
        Due.is("of one DAY the one told last", x.shire(0, 7, 400), 2);
        Due.is("of the other DAY, too", x.shire(0, 5, 400), 3);
        Due.is("else as told at first", x.shire(0, 4, 400), 2);
        x.move(0, 1, 0);
        Due.is("from the first DAY on", x.shire(0, 0, 400), 1);
        x.move(0, 0, 400);
        Due.is("ahead of the last DAY", x.shire(0, 399, 400), 2);
        Due.is("from the last DAY on", x.shire(0, 400, 400), 0);
    }

    private static void envelopes() {
        Due.sentence(PART, "ENVELOPES (200 at most), numbered as they are SENT: to a VOTER, for a DAY");
        PostVotes x = new PostVotes();
        x.voter(0, 0, 0);
        x.voter(0, 0, 0);
        x.days(3);
        for (int i = 0; i < 200; i++) {
            Due.is("send " + i, x.send(i % 2, i % 4, 0), i);
        }
        Due.is("the 201st", x.send(0, 0, 0), -1);
        Due.is("200 envelopes", x.count(2), 200);
        Due.is("the last one's DAY", Due.letter(x, 199, 'o', 3), 3);
        Due.is("half of them", Due.letter(x, 199, 'e', 3), 100);
        Due.is("none behind it", x.state(200, 3), -1);
    }

    private static void choices() {
        Due.sentence(PART, "with a CHOICE (0 .. 4) that will be inside (nobody sees it).");
        PostVotes x = House.under("1=1?g", 0);
        x.size(1);
        for (int choice = 0; choice < 5; choice++) {
            x.voter(0, 0, 0);
            Due.is("choice " + choice, x.send(choice, 0, choice), choice);
            x.event(choice, 2, 0, 0);
        }
        Due.is("choice -1", x.send(0, 0, -1), -1);
        Due.is("choice 5", x.send(0, 0, 5), -1);
        Due.is("five sent", x.count(2), 5);
        Due.is("all in a heap", x.open(0), 0);
        for (int choice = 0; choice < 5; choice++) {
            Due.is("of choice " + choice, x.heap(0, choice), 1);
        }
    }

    private static void events() {
        Due.sentence(PART, "EVENTS (600 at most) of one, each for a DAY: 1 MARK (by the post) 2 COME (by post) 3 DROP (into BOX 0 .. 7) 4 LOST 5 FOUND"
            + " 6 CURE (the voter says it is theirs) 7 SPOIL 8 REPLACE (another one is asked for)");
        PostVotes x = House.under("1=1?g", 9);
        for (int kind = 0; kind <= 9; kind++) {
            x.send(0, 0, 0);
            Due.is("kind " + kind, x.event(kind, kind, kind, 0) ? 1 : 0, kind >= 1 && kind <= 8 ? 1 : 0);
        }
        String letters = ".mc.lfxpr.";
        for (int kind = 0; kind <= 9; kind++) {
            for (int i = 0; i < letters.length(); i++) {
                char letter = letters.charAt(i);
                if (letter != '.') {
                    Due.is("letter " + letter + " behind kind " + kind, Due.letter(x, kind, letter, 9), i == kind ? kind : -1);
                }
            }
        }
        Due.no("DROP into -1", x.event(3, 3, 3, -1));
        Due.no("DROP into 8", x.event(3, 3, 3, 8));
        Due.yes("DROP into 7", x.event(3, 3, 3, 7));
        x.empty(7, 3, 1);
        Due.is("by BOX 7", Due.letter(x, 3, 'i', 9), 1);
        Due.yes("DROP into 0", x.event(3, 3, 3, 0));
        Due.is("no longer by BOX 7", Due.letter(x, 3, 'c', 9), -1);
        Due.is("EVENTS", x.count(3), 10);
    }

    /** As many as an object's 512 calls let; the bound of 600 lies behind them. */
    private static void manyEvents() {
        Due.sentence(PART, "EVENTS (600 at most) of one");
        PostVotes x = new PostVotes();
        x.voter(0, 0, 0);
        x.send(0, 0, 0);
        for (int i = 0; i < 508; i++) {
            Due.yes("event " + i, x.event(0, i % 8 + 1, 0, 0));
        }
        Due.is("EVENTS", x.count(3), 508);
        Due.is("the 512th call", Due.letter(x, 0, 'm', 0), 0);
    }

    private static void toldAgain() {
        Due.sentence(PART, "An EVENT of a kind that is known already of that ENVELOPE counts instead of that one (as known: the one told last).");
        String letters = "mc.lfxpr";
        for (int kind = 1; kind <= 8; kind++) {
            if (kind == 3) {
                continue;
            }
            char letter = letters.charAt(kind - 1);
            PostVotes x = House.under("1=1?g", 5);
            x.send(0, 0, 0);
            x.send(0, 0, 0);
            x.event(0, kind, 3, 0);
            x.event(0, kind, 5, 0);
            Due.is("a greater DAY told last, kind " + kind, Due.letter(x, 0, letter, 5), 5);
            x.event(0, kind, 2, 0);
            Due.is("a lesser DAY told last, kind " + kind, Due.letter(x, 0, letter, 5), 2);
            x.days(1);
            x.event(0, kind, 4, 0);
            Due.is("told on the next DAY, kind " + kind, Due.letter(x, 0, letter, 6), 4);
            Due.is("as known ahead of that, kind " + kind, Due.letter(x, 0, letter, 5), 2);
            Due.is("not of another ENVELOPE, kind " + kind, Due.letter(x, 1, letter, 6), -1);
            Due.is("all were told", x.count(3), 4);
        }
        PostVotes x = House.under("1=1?g", 5);
        x.send(0, 0, 0);
        x.empty(1, 4, 1);
        x.empty(2, 5, 1);
        x.event(0, 3, 1, 1);
        Due.is("the DROP's BOX", Due.letter(x, 0, 'c', 5), 4);
        x.event(0, 3, 1, 2);
        Due.is("another BOX told last", Due.letter(x, 0, 'c', 5), 5);
        x.event(0, 3, 5, 1);
        Due.is("a DAY behind its EMPTYING told last", Due.letter(x, 0, 'c', 5), -1);
    }

    private static void dropHasABox() {
        Due.sentence(PART, "A DROP has a BOX.");
        for (int box = 0; box < 8; box++) {
            PostVotes x = House.under("1=1?g", 0);
            x.send(0, 0, 0);
            Due.yes("DROP into " + box, x.event(0, 3, 0, box));
            for (int other = 0; other < 8; other++) {
                if (other != box) {
                    x.empty(other, 0, 0);
                }
            }
            Due.is("not by another BOX than " + box, x.state(0, 0), 0);
            x.empty(box, 0, 1);
            Due.is("by BOX " + box, x.state(0, 0), 2);
            Due.is("its EMPTYING", x.sealed(7, 0), 0);
        }
        for (int kind = 1; kind <= 8; kind++) {
            PostVotes x = House.under("1=1?g", 0);
            x.send(0, 0, 0);
            for (int box : new int[] {-1, 1, 7, 8}) {
                boolean taken = kind == 3 && box > 0 && box < 8;
                Due.is("kind " + kind + " with " + box, x.event(0, kind, 0, box) ? 1 : 0, taken ? 1 : 0);
            }
        }
    }

    private static void emptyings() {
        Due.sentence(PART, "EMPTYING of a BOX: for a DAY, told with how many ENVELOPES were in (200 at most).");
        PostVotes x = House.on(2);
        Due.is("of -1", x.empty(0, 0, -1), -1);
        Due.is("of 201", x.empty(0, 0, 201), -1);
        Due.is("of none", x.empty(0, 0, 0), 0);
        Due.is("of 200", x.empty(0, 0, 200), 1);
        Due.is("told with 0", x.sealed(0, 2), 0);
        Due.is("told with 200", x.sealed(1, 2), 1);
        Due.is("two emptyings", x.count(4), 2);
    }

    private static void firstEmptying() {
        Due.sentence(PART, "One that was DROPPED comes by its BOX on the DAY of the first EMPTYING of it (by DAYS, of one DAY as told)"
            + " that is on its DROP's DAY or behind;");
        PostVotes x = House.under("1=1?g", 400);
        x.send(0, 0, 0);
        x.event(0, 3, 5, 1);
        x.empty(1, 4, 0);
        Due.is("an EMPTYING ahead of the DROP", x.state(0, 400), 0);
        x.empty(1, 400, 0);
        Due.is("on the last DAY", Due.letter(x, 0, 'c', 400), 400);
        x.empty(1, 7, 0);
        Due.is("the first by DAYS, told later", Due.letter(x, 0, 'c', 400), 7);
        x.empty(1, 6, 1);
        x.empty(1, 6, 0);
        Due.is("of one DAY", Due.letter(x, 0, 'c', 400), 6);
        Due.is("the one told first", x.sealed(3, 400), 0);
        Due.is("not the one told last", x.sealed(4, 400), 0);
        x.empty(1, 5, 1);
        Due.is("on the DROP's DAY", Due.letter(x, 0, 'c', 400), 5);
        Due.is("by that EMPTYING", x.sealed(5, 400), 0);
        Due.is("and by no other", x.sealed(3, 400), 1);
        x.event(0, 3, 0, 1);
        Due.is("DROPPED on the first DAY", Due.letter(x, 0, 'c', 400), 4);
        x.empty(1, 0, 1);
        Due.is("emptied on the first DAY", Due.letter(x, 0, 'c', 400), 0);
    }

    private static void comesTwice() {
        Due.sentence(PART, "one that has a COME of its own, too, comes on the lesser DAY of both (by its BOX only if that DAY is the lesser one).");
        int[][] rows = {{4, 4, 0}, {5, 5, 0}, {6, 5, 1}, {0, 0, 0}, {9, 5, 1}};
        for (int[] row : rows) {
            PostVotes x = House.under("1=1?g", 9);
            x.send(0, 0, 0);
            x.event(0, 3, 5, 2);
            x.empty(2, 5, 1);
            x.event(0, 2, row[0], 0);
            Due.is("COME on " + row[0] + ", its BOX on 5: c", Due.letter(x, 0, 'c', 9), row[1]);
            Due.is("COME on " + row[0] + ", its BOX on 5: i", Due.letter(x, 0, 'i', 9), row[2]);
            Due.is("COME on " + row[0] + ", its BOX on 5: SEALED wrong", x.sealed(0, 9), 1 - row[2]);
        }
    }

    private static void lostAndFound() {
        Due.sentence(PART, "One that is LOST comes just if it would else and is FOUND on a DAY not ahead of LOST's: on the greater DAY of that and FOUND's");
        // COME, LOST, FOUND (-1: not told), and the DAY on which it comes
        int[][] rows = {{3, 5, -1, -1}, {3, 5, 4, -1}, {3, 5, 5, 5}, {3, 5, 6, 6}, {7, 5, 6, 7}, {6, 5, 6, 6}, {3, -1, 9, 3}, {3, -1, 0, 3},
            {-1, 5, 5, -1}, {-1, 5, 9, -1}, {0, 0, 0, 0}, {9, 0, 0, 9}, {0, 0, 9, 9}, {9, 9, 8, -1}, {3, 0, -1, -1}};
        for (int[] row : rows) {
            PostVotes x = House.under("1=1?g", 9);
            x.send(0, 0, 0);
            for (int i = 0; i < 3; i++) {
                if (row[i] >= 0) {
                    x.event(0, new int[] {2, 4, 5}[i], row[i], 0);
                }
            }
            String told = "COME " + row[0] + ", LOST " + row[1] + ", FOUND " + row[2];
            Due.is(told + ": c", Due.letter(x, 0, 'c', 9), row[3]);
            Due.is(told + ": i", Due.letter(x, 0, 'i', 9), 0);
            Due.is(told + ": STATE", x.state(0, 9), row[3] >= 0 ? 2 : row[1] >= 0 ? 1 : 0);
        }
    }

    private static void lostAndFoundByBox() {
        Due.sentence(PART, "(by its BOX, by that EMPTYING yet, if it would).");
        // the EMPTYING is of day 4; LOST, FOUND, and the DAY on which it comes
        int[][] rows = {{5, -1, -1}, {5, 4, -1}, {5, 5, 5}, {5, 8, 8}, {2, 3, 4}, {2, 4, 4}, {0, 0, 4}, {9, 9, 9}};
        for (int[] row : rows) {
            PostVotes x = House.under("1=1?g", 9);
            x.send(0, 0, 0);
            x.event(0, 3, 2, 7);
            x.empty(7, 4, 1);
            x.empty(7, 5, 0);
            x.event(0, 4, row[0], 0);
            if (row[1] >= 0) {
                x.event(0, 5, row[1], 0);
            }
            String told = "LOST " + row[0] + ", FOUND " + row[1];
            Due.is(told + ": c", Due.letter(x, 0, 'c', 9), row[2]);
            Due.is(told + ": i", Due.letter(x, 0, 'i', 9), row[2] >= 0 ? 1 : 0);
            Due.is(told + ": its EMPTYING", x.sealed(0, 9), row[2] >= 0 ? 0 : 1);
            Due.is(told + ": the one on the DAY it comes", x.sealed(1, 9), 0);
        }
        PostVotes x = House.under("1=1?g", 9);
        x.send(0, 0, 0);
        x.event(0, 3, 2, 7);
        x.empty(7, 4, 0);
        x.event(0, 2, 4, 0);
        x.event(0, 4, 5, 0);
        x.event(0, 5, 6, 0);
        Due.is("it would by post: i", Due.letter(x, 0, 'i', 9), 0);
        Due.is("it would by post: its EMPTYING", x.sealed(0, 9), 0);
    }

    private static void sealed() {
        Due.sentence(PART, "SEALED wrong is an EMPTYING, as known, if it was told with another number than there are ENVELOPES that come (as known)"
            + " by their BOX by just this EMPTYING.");
        PostVotes x = House.under("1=1?g", 5);
        for (int i = 0; i < 3; i++) {
            x.send(0, 0, 0);
            x.event(i, 3, 1, i);
        }
        x.event(1, 3, 1, 0);
        for (int many = 0; many <= 3; many++) {
            // emptyings of one DAY: the first one told takes both
            PostVotes y = House.under("1=1?g", 5);
            for (int i = 0; i < 2; i++) {
                y.send(0, 0, 0);
                y.event(i, 3, 1, 0);
            }
            y.empty(0, 2, many);
            y.empty(0, 2, many);
            Due.is("two come, told with " + many, y.sealed(0, 5), many == 2 ? 0 : 1);
            Due.is("none come, told with " + many, y.sealed(1, 5), many == 0 ? 0 : 1);
        }
        x.empty(0, 1, 2);
        x.empty(2, 1, 1);
        x.empty(1, 1, 0);
        Due.is("two by BOX 0", x.sealed(0, 5), 0);
        Due.is("one by BOX 2", x.sealed(1, 5), 0);
        Due.is("none by BOX 1", x.sealed(2, 5), 0);
        x.days(1);
        x.event(1, 2, 1, 0);
        Due.is("one comes by post", x.sealed(0, 6), 1);
        Due.is("as known ahead of that", x.sealed(0, 5), 0);
    }

    private static void sealedOfAll() {
        Due.sentence(PART, "told with how many ENVELOPES were in (200 at most).");
        PostVotes x = new PostVotes();
        x.voter(0, 0, 0);
        for (int i = 0; i < 200; i++) {
            x.send(0, 0, 0);
            x.event(i, 3, 0, 3);
        }
        x.empty(3, 0, 200);
        Due.is("all 200 by one EMPTYING", x.sealed(0, 0), 0);
        x.event(0, 4, 0, 0);
        Due.is("199 of them", x.sealed(0, 0), 1);
    }

    private static void signs() {
        Due.sentence(PART, "SIGNS read: of an ENVELOPE a SIGN (told last).");
        PostVotes x = House.under("1=1?g", 0);
        x.send(0, 0, 0);
        x.send(0, 0, 0);
        Due.yes("the least", x.read(0, 0));
        Due.is("alike", Due.letter(x, 0, 's', 0), 0);
        Due.yes("the greatest", x.read(0, 99_999_999));
        Due.is("told last", Due.letter(x, 0, 's', 0), 8);
        Due.no("too small", x.read(0, -1));
        Due.no("too great", x.read(0, 100_000_000));
        Due.is("as before", Due.letter(x, 0, 's', 0), 8);
        Due.is("not of another ENVELOPE", Due.letter(x, 1, 's', 0), 9);
    }

    private static void hands() {
        Due.sentence(PART, "HANDS 0 .. 5: of an ENVELOPE yes or no (told last of each HAND).");
        PostVotes x = House.under("1=1?g", 0);
        x.send(0, 0, 0);
        Due.no("HAND -1", x.hand(0, -1, true));
        Due.no("HAND 6", x.hand(0, 6, true));
        Due.is("none told", Due.letter(x, 0, 'y', 0), 0);
        for (int hand = 0; hand <= 5; hand++) {
            Due.yes("HAND " + hand, x.hand(0, hand, true));
            Due.is("yes of so many", Due.letter(x, 0, 'y', 0), hand + 1);
        }
        x.hand(0, 0, false);
        x.hand(0, 5, false);
        Due.is("yes, told last", Due.letter(x, 0, 'y', 0), 4);
        Due.is("no, told last", Due.letter(x, 0, 'z', 0), 2);
        x.hand(0, 5, true);
        Due.is("yes once more", Due.letter(x, 0, 'y', 0), 5);
        Due.is("no of one", Due.letter(x, 0, 'z', 0), 1);
    }

    private static void booths() {
        Due.sentence(PART, "BOOTH: a VOTER voted there on a DAY (told last).");
        PostVotes x = House.under("1=1?g", 5);
        x.voter(0, 0, 0);
        x.send(0, 0, 0);
        x.send(1, 0, 0);
        x.booth(0, 5);
        Due.is("on the last DAY", Due.letter(x, 0, 'b', 5), 5);
        x.booth(0, 0);
        Due.is("on the first DAY, told last", Due.letter(x, 0, 'b', 5), 0);
        x.booth(0, 3);
        Due.is("told last", Due.letter(x, 0, 'b', 5), 3);
        Due.is("not of another VOTER", Due.letter(x, 1, 'b', 5), -1);
        x.voter(3, 0, 0);
        x.booth(2, 0);
        Due.is("no MOVE", x.shire(2, 5, 5), 3);
        x.send(2, 0, 0);
        x.move(2, 1, 4);
        Due.is("a MOVE is no BOOTH", Due.letter(x, 2, 'b', 5), 0);
    }
}
