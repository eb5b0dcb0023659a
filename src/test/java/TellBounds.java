import java.util.ArrayList;
import java.util.List;

/** Promises 1 to 17: what is told and answered at the bounds, and what a refused call leaves as it was. */
final class TellBounds {
    private TellBounds() {
    }

    static void run() {
        constants();
        calls();
        newObject();
        days();
        daysRefused();
        voter();
        voterRefused();
        move();
        moveRefused();
        movesFull();
        shire();
        shireRefused();
        send();
        sendRefused();
        event();
        eventRefused();
        empty();
        emptyRefused();
        sealed();
        sealedRefused();
        read();
        readRefused();
        hand();
        handRefused();
        booth();
        boothRefused();
        feed();
        feedRefused();
        end();
        endRefused();
        fault();
        law();
        lawStays();
        lawRefused();
        lawful();
        lawfulRefused();
    }

    private static void constants() {
        Due.sentence("Constants", "NONE = -1: None; refused.");
        Due.is("NONE", PostVotes.NONE, -1);
        Due.is("None", new PostVotes().harshest(), PostVotes.NONE);
        Due.is("refused", new PostVotes().days(401), PostVotes.NONE);
        Due.sentence("Constants", "HIDDEN = -2: Not told.");
        Due.is("HIDDEN", PostVotes.HIDDEN, -2);
        Due.is("Not told", new PostVotes().usual(0, 1), PostVotes.HIDDEN);
    }

    private static void calls() {
        Due.sentence("What it is", "An object is used for at most 512 calls after it has been made;");
        PostVotes x = House.under("1=1?g", 0);
        House.come(x, 0, 0, 0);
        // a voter, a law told by four calls, the days, an envelope and its event
        int made = 1 + 4 + 1 + 2;
        for (int i = made + 1; i <= 510; i++) {
            Due.is("call " + i, i % 2 == 0 ? x.state(0, 0) : x.count(3), i % 2 == 0 ? 2 : 1);
        }
        Due.is("call 511", x.voter(0, 0, 0), 1);
        Due.is("call 512", x.count(1), 2);
    }

    private static void newObject() {
        Due.sentence("Promise 1", "DAY 0, nobody.");
        PostVotes x = new PostVotes();
        for (int what = 0; what <= 11; what++) {
            Due.is("count(" + what + ")", x.count(what), 0);
        }
        Due.is("no VOTER", x.shire(0, 0, 0), -1);
        Due.is("no ENVELOPE", x.state(0, 0), -1);
        Due.is("no EMPTYING", x.sealed(0, 0), -1);
        Due.is("no LAW", x.lawful(0, 400, 0), -1);
        Due.is("no WAVE", x.printed(0), -1);
        Due.is("no BOX stands", x.round(0), 0);
        Due.is("no HEAP", x.heap(0, 5), -1);
        Due.is("an empty TAPE", x.fault(), 0);
        Due.no("no VOTER to MOVE", x.move(0, 0, 0));
        Due.is("no DAY behind 0", x.lawful(0, 0, 1), -1);
    }

    private static void days() {
        Due.sentence("Promise 2", "n DAYS go by (0 .. 400): NOW.");
        int[] all = {0, 1, 399, 400};
        for (int n : all) {
            PostVotes x = new PostVotes();
            Due.is("days(" + n + ")", x.days(n), n);
            Due.is("NOW", x.count(0), n);
            Due.is("up to 400", x.days(400 - n), 400);
        }
        PostVotes x = new PostVotes();
        for (int i = 1; i <= 400; i++) {
            Due.is("days(1)", x.days(1), i);
        }
        Due.is("days(0) on 400", x.days(0), 400);
    }

    private static void daysRefused() {
        Due.sentence("Promise 2", "NONE: n, or NOW would be above 400.");
        Refused.each("days(#) on 10", -1, new int[] {-1, -10, 391, 400, 401}, (x, n) -> x.days(n));
        int[][] rows = {{0, 401}, {0, -1}, {1, 400}, {399, 2}, {400, 1}, {400, 400}, {200, 201}};
        for (int[] row : rows) {
            PostVotes x = House.on(row[0]);
            Due.is("days(" + row[1] + ") on " + row[0], x.days(row[1]), -1);
            Due.is("NOW behind days(" + row[1] + ") on " + row[0], x.count(0), row[0]);
            Due.is("days(0) behind it", x.days(0), row[0]);
        }
        Due.is("days(390) on 10", House.some().days(390), 400);
    }

    private static void voter() {
        Due.sentence("Promise 3", "A VOTER: its number.");
        PostVotes x = new PostVotes();
        int[][] rows = {{0, 0, 0}, {3, 9, 99_999_999}, {0, 0, 0}};
        for (int i = 0; i < rows.length; i++) {
            Due.is("voter " + i, x.voter(rows[i][0], rows[i][1], rows[i][2]), i);
            Due.is("VOTERS", x.count(1), i + 1);
        }
    }

    private static void voterRefused() {
        Due.sentence("Promise 3", "NONE: out of bounds, there are 60.");
        Refused.each("voter(#, 0, 0)", -1, new int[] {-1, 4}, (x, n) -> x.voter(n, 0, 0));
        Refused.each("voter(0, #, 0)", -1, new int[] {-1, 10}, (x, n) -> x.voter(0, n, 0));
        Refused.each("voter(0, 0, #)", -1, new int[] {-1, 100_000_000}, (x, n) -> x.voter(0, 0, n));
        Refused.Maker full = () -> {
            PostVotes x = new PostVotes();
            for (int i = 0; i < 60; i++) {
                x.voter(4, 0, 0);
                x.voter(i % 4, 0, 0);
            }
            return x;
        };
        Due.is("there are 60, refused ones not counted", full.make().count(1), 60);
        Refused.full("voter(0, 0, 0) of 60", full, -1, x -> x.voter(0, 0, 0));
    }

    private static void move() {
        Due.sentence("Promise 4", "A MOVE.");
        PostVotes x = new PostVotes();
        x.voter(0, 0, 0);
        x.voter(0, 0, 0);
        x.days(400);
        Due.yes("to SHIRE 3 on the first DAY", x.move(0, 3, 0));
        Due.yes("to SHIRE 0 on the last DAY", x.move(0, 0, 400));
        Due.is("first DAY", x.shire(0, 0, 400), 3);
        Due.is("last DAY", x.shire(0, 400, 400), 0);
        Due.is("not of the other VOTER", x.shire(1, 0, 400), 0);
        Due.yes("to the SHIRE where it is", x.move(1, 0, 400));
    }

    private static void moveRefused() {
        Due.sentence("Promise 4", "False: no such VOTER, SHIRE, DAY (0 .. NOW); 60 were.");
        Refused.each("move(#, 1, 0)", 0, new int[] {-1, 4}, (x, n) -> x.move(n, 1, 0) ? 1 : 0);
        Refused.each("move(0, #, 0)", 0, new int[] {-1, 4}, (x, n) -> x.move(0, n, 0) ? 1 : 0);
        Refused.each("move(0, 1, #)", 0, new int[] {-1, 11, 400}, (x, n) -> x.move(0, 1, n) ? 1 : 0);
        Due.yes("the last VOTER", House.some().move(3, 1, 0));
        Due.yes("NOW", House.some().move(0, 1, 10));
    }

    private static void movesFull() {
        Due.sentence("Promise 4", "60 were.");
        Refused.Maker full = () -> {
            PostVotes x = new PostVotes();
            x.voter(0, 0, 0);
            x.voter(0, 0, 0);
            for (int i = 0; i < 60; i++) {
                Due.no("refused", x.move(2, 1, 0));
                Due.yes("move " + i, x.move(i % 2, 1, 0));
            }
            return x;
        };
        Refused.full("move(0, 2, 0) of 60", full, 0, x -> x.move(0, 2, 0) ? 1 : 0);
        Refused.full("move(1, 2, 0) of 60", full, 0, x -> x.move(1, 2, 0) ? 1 : 0);
    }

    private static void shire() {
        Due.sentence("Promise 5", "The SHIRE of a VOTER on a DAY (0 .. 400) as known in q.");
        PostVotes x = new PostVotes();
        x.voter(3, 0, 0);
        x.voter(0, 0, 0);
        Due.is("on DAY 0", x.shire(0, 0, 0), 3);
        Due.is("on DAY 400, ahead of NOW", x.shire(0, 400, 0), 3);
        Due.is("the other", x.shire(1, 400, 0), 0);
        x.days(1);
        x.move(0, 1, 1);
        Due.is("on DAY 400 as known in 1", x.shire(0, 400, 1), 1);
        Due.is("on DAY 400 as known in 0", x.shire(0, 400, 0), 3);
        Due.is("on DAY 0 as known in 1", x.shire(0, 0, 1), 3);
        x.voter(2, 0, 0);
        Due.is("as known ahead of its telling", x.shire(2, 0, 0), 2);
    }

    private static void shireRefused() {
        Due.sentence("Promise 5", "NONE: no such ones.");
        Refused.each("shire(#, 0, 0)", -1, new int[] {-1, 4}, (x, n) -> x.shire(n, 0, 0));
        Refused.each("shire(0, #, 0)", -1, new int[] {-1, 401}, (x, n) -> x.shire(0, n, 0));
        Refused.each("shire(0, 0, #)", -1, new int[] {-1, 11}, (x, n) -> x.shire(0, 0, n));
        Due.is("the last ones", House.some().shire(3, 400, 10), 2);
    }

    private static void send() {
        Due.sentence("Promise 6", "An ENVELOPE is SENT: its number.");
        PostVotes x = new PostVotes();
        x.voter(0, 0, 0);
        x.voter(0, 0, 0);
        x.days(2);
        Due.is("send first", x.send(1, 0, 0), 0);
        Due.is("send last", x.send(0, 2, 4), 1);
        Due.is("send the same", x.send(0, 2, 4), 2);
        Due.is("ENVELOPES", x.count(2), 3);
        Due.is("its DAY", Due.letter(x, 1, 'o', 2), 2);
        Due.is("OUT", x.state(2, 2), 0);
    }

    private static void sendRefused() {
        Due.sentence("Promise 6", "NONE: no such VOTER, DAY (0 .. NOW), CHOICE; there are 200.");
        Refused.each("send(#, 0, 0)", -1, new int[] {-1, 4}, (x, n) -> x.send(n, 0, 0));
        Refused.each("send(0, #, 0)", -1, new int[] {-1, 11, 400}, (x, n) -> x.send(0, n, 0));
        Refused.each("send(0, 0, #)", -1, new int[] {-1, 5}, (x, n) -> x.send(0, 0, n));
        Refused.Maker full = () -> {
            PostVotes x = new PostVotes();
            x.voter(0, 0, 0);
            for (int i = 0; i < 200; i++) {
                if (i % 3 == 0) {
                    x.send(0, 1, 0);
                }
                x.send(0, 0, i % 5);
            }
            return x;
        };
        Due.is("there are 200, refused ones not counted", full.make().count(2), 200);
        Refused.full("send(0, 0, 0) of 200", full, -1, x -> x.send(0, 0, 0));
    }

    private static void event() {
        Due.sentence("Promise 7", "An EVENT (with DROP the BOX, else 0).");
        for (int kind = 1; kind <= 8; kind++) {
            for (int box = -1; box <= 8; box++) {
                boolean taken = kind == 3 ? box >= 0 && box <= 7 : box == 0;
                PostVotes x = House.under("1=1?g", 3);
                x.send(0, 0, 0);
                Due.is("event(0, " + kind + ", 3, " + box + ")", x.event(0, kind, 3, box) ? 1 : 0, taken ? 1 : 0);
                Due.is("EVENTS", x.count(3), taken ? 1 : 0);
            }
        }
    }

    private static void eventRefused() {
        Due.sentence("Promise 7", "False: no such ENVELOPE, kind (1 .. 8), DAY (0 .. NOW), BOX; there were 600.");
        Refused.each("event(#, 1, 0, 0)", 0, new int[] {-1, 8, 200}, (x, n) -> x.event(n, 1, 0, 0) ? 1 : 0);
        Refused.each("event(0, #, 0, 0)", 0, new int[] {-1, 0, 9, 10}, (x, n) -> x.event(0, n, 0, 0) ? 1 : 0);
        for (int kind = 1; kind <= 8; kind++) {
            int k = kind;
            Refused.each("event(1, " + k + ", #, 0)", 0, new int[] {-1, 11}, (x, n) -> x.event(1, k, n, 0) ? 1 : 0);
            int[] boxes = kind == 3 ? new int[] {-1, 8} : new int[] {-1, 1, 7, 8};
            Refused.each("event(1, " + k + ", 0, #)", 0, boxes, (x, n) -> x.event(1, k, 0, n) ? 1 : 0);
        }
        Due.yes("the last ENVELOPE, kind, DAY", House.some().event(7, 8, 10, 0));
        Due.yes("the last BOX", House.some().event(7, 3, 10, 7));
    }

    private static void empty() {
        Due.sentence("Promise 8", "An EMPTYING: its number.");
        PostVotes x = House.on(2);
        int[][] rows = {{0, 0, 0}, {7, 2, 200}, {0, 0, 0}};
        for (int i = 0; i < rows.length; i++) {
            Due.is("empty " + i, x.empty(rows[i][0], rows[i][1], rows[i][2]), i);
            Due.is("EMPTYINGS", x.count(4), i + 1);
        }
    }

    private static void emptyRefused() {
        Due.sentence("Promise 8", "NONE: no such BOX, DAY, how many (0 .. 200); there were 200.");
        Refused.each("empty(#, 0, 0)", -1, new int[] {-1, 8}, (x, n) -> x.empty(n, 0, 0));
        Refused.each("empty(5, #, 0)", -1, new int[] {-1, 11, 400}, (x, n) -> x.empty(5, n, 0));
        Refused.each("empty(5, 2, #)", -1, new int[] {-1, 201}, (x, n) -> x.empty(5, 2, n));
        Refused.Maker full = () -> {
            PostVotes x = House.under("1=1?g", 0);
            x.send(0, 0, 0);
            x.event(0, 3, 0, 7);
            for (int i = 0; i < 200; i++) {
                x.empty(8, 0, 0);
                x.empty(i % 7, 0, 0);
            }
            return x;
        };
        Due.is("there were 200, refused ones not counted", full.make().count(4), 200);
        Refused.full("empty(7, 0, 0) of 200", full, -1, x -> x.empty(7, 0, 0));
    }

    private static void sealed() {
        Due.sentence("Promise 9", "Whether an EMPTYING is SEALED wrong as known in q (1, 0).");
        PostVotes x = House.under("1=1?g", 0);
        x.send(0, 0, 0);
        x.event(0, 3, 0, 0);
        x.empty(0, 0, 0);
        x.empty(1, 0, 0);
        Due.is("wrong", x.sealed(0, 0), 1);
        Due.is("right", x.sealed(1, 0), 0);
        x.days(400);
        x.event(0, 2, 0, 0);
        Due.is("wrong as known on the first DAY", x.sealed(0, 0), 1);
        Due.is("wrong as known in 399", x.sealed(0, 399), 1);
        Due.is("right as known on the last DAY", x.sealed(0, 400), 0);
    }

    private static void sealedRefused() {
        Due.sentence("Promise 9", "NONE: no such one, it was not told by then, q.");
        Refused.each("sealed(#, 10)", -1, new int[] {-1, 3, 200}, (x, n) -> x.sealed(n, 10));
        Refused.each("sealed(0, #)", -1, new int[] {-1, 11}, (x, n) -> x.sealed(0, n));
        Refused.none("sealed(0, 3), told on 4", x -> x.sealed(0, 3));
        Due.is("sealed(0, 4), told on 4", House.some().sealed(0, 4), 0);
        Refused.none("sealed(1, 6), told on 7", x -> x.sealed(1, 6));
        Due.is("sealed(1, 7), told on 7, for 6", House.some().sealed(1, 7), 1);
        Due.is("the last one", House.some().sealed(2, 10), 0);
    }

    private static void read() {
        Due.sentence("Promise 10", "A SIGN read of an ENVELOPE.");
        PostVotes x = House.under("1=1?g", 0);
        x.send(0, 0, 0);
        Due.yes("the least", x.read(0, 0));
        Due.is("read", Due.letter(x, 0, 's', 0), 0);
        Due.yes("the greatest", x.read(0, 99_999_999));
        Due.is("read again", Due.letter(x, 0, 's', 0), 8);
    }

    private static void readRefused() {
        Due.sentence("Promise 10", "False: no such one, SIGN; there were 400.");
        Refused.each("read(#, 0)", 0, new int[] {-1, 8, 200}, (x, n) -> x.read(n, 0) ? 1 : 0);
        Refused.each("read(0, #)", 0, new int[] {-1, 100_000_000}, (x, n) -> x.read(0, n) ? 1 : 0);
        Refused.Maker full = () -> {
            PostVotes x = House.under("s=1?g;1=1?w", 0);
            House.come(x, 0, 0, 0);
            House.come(x, 0, 0, 0);
            for (int i = 0; i < 20; i++) {
                x.read(2, 0);
                x.read(0, -1);
            }
            for (int i = 0; i < 400; i++) {
                Due.yes("read " + i, x.read(i == 100 ? 1 : 0, i == 399 ? 1 : i));
            }
            return x;
        };
        Due.is("the 400th counts", Due.letter(full.make(), 0, 's', 0), 1);
        Refused.full("read(0, 0) of 400", full, 0, x -> x.read(0, 0) ? 1 : 0);
        Refused.full("read(1, 1) of 400", full, 0, x -> x.read(1, 1) ? 1 : 0);
    }

    private static void hand() {
        Due.sentence("Promise 11", "A HAND tells yes or no of an ENVELOPE.");
        PostVotes x = House.under("1=1?g", 0);
        x.send(0, 0, 0);
        Due.yes("the first HAND, no", x.hand(0, 0, false));
        Due.yes("the last HAND, yes", x.hand(0, 5, true));
        Due.is("yes", Due.letter(x, 0, 'y', 0), 1);
        Due.is("no", Due.letter(x, 0, 'z', 0), 1);
    }

    /** The bound of 600 lies behind an object's 512 calls. */
    private static void handRefused() {
        Due.sentence("Promise 11", "False: no such ones, there were 600.");
        Refused.each("hand(#, 0, true)", 0, new int[] {-1, 8, 200}, (x, n) -> x.hand(n, 0, true) ? 1 : 0);
        Refused.each("hand(0, #, false)", 0, new int[] {-1, 6}, (x, n) -> x.hand(0, n, false) ? 1 : 0);
        PostVotes x = new PostVotes();
        x.voter(0, 0, 0);
        x.send(0, 0, 0);
        for (int i = 0; i < 508; i++) {
            Due.yes("hand " + i, x.hand(0, i % 6, i < 504));
        }
        Due.is("yes", Due.letter(x, 0, 'y', 0), 2);
        Due.is("no", Due.letter(x, 0, 'z', 0), 4);
    }

    private static void booth() {
        Due.sentence("Promise 12", "BOOTH.");
        PostVotes x = House.under("1=1?g", 400);
        x.send(0, 0, 0);
        Due.yes("on the last DAY", x.booth(0, 400));
        Due.is("the last DAY", Due.letter(x, 0, 'b', 400), 400);
        Due.yes("on the first DAY", x.booth(0, 0));
        Due.is("the first DAY", Due.letter(x, 0, 'b', 400), 0);
    }

    private static void boothRefused() {
        Due.sentence("Promise 12", "False: no such VOTER, DAY (0 .. NOW); there were 100.");
        Refused.each("booth(#, 0)", 0, new int[] {-1, 4, 60}, (x, n) -> x.booth(n, 0) ? 1 : 0);
        Refused.each("booth(0, #)", 0, new int[] {-1, 11, 400}, (x, n) -> x.booth(0, n) ? 1 : 0);
        Refused.Maker full = () -> {
            PostVotes x = House.under("b=1?g;1=1?w", 3);
            x.voter(0, 0, 0);
            House.come(x, 0, 0, 0);
            House.come(x, 1, 0, 0);
            for (int i = 0; i < 100; i++) {
                x.booth(2, 0);
                x.booth(0, 4);
                Due.yes("booth " + i, x.booth(i % 2, i >= 98 ? 1 : 2));
            }
            return x;
        };
        Due.is("the 100th counts", Due.letter(full.make(), 1, 'b', 3), 1);
        Refused.full("booth(0, 0) of 100", full, 0, x -> x.booth(0, 0) ? 1 : 0);
        Refused.full("booth(1, 0) of 100", full, 0, x -> x.booth(1, 0) ? 1 : 0);
    }

    private static void feed() {
        Due.sentence("Promise 13", "Twenty bytes more come to the TAPE (of each number the highest first; bytes of 0 are left out): how many it has.");
        PostVotes x = new PostVotes();
        Due.is("bytes of 0 alone", x.feed(0, 0, 0, 0, 0), 0);
        Due.is("one byte, the highest of the first", x.feed('1' << 24, 0, 0, 0, 0), 1);
        Due.is("one byte, the lowest of the first", x.feed('=', 0, 0, 0, 0), 2);
        Due.is("two with bytes of 0 between", x.feed(0, '1' << 16, 0, '?' << 8, 0), 4);
        Due.is("one byte, the lowest of the last", x.feed(0, 0, 0, 0, 'g'), 5);
        Due.is("1=1?g", x.fault(), -1);
        x.end(0);
        Due.is("twenty bytes", x.feed(0x313D313F, 0x673B313D, 0x313F673B, 0x313D313F, 0x673B313D), 20);
        Due.is("1=1?g;1=1?g;1=1?g;1=", x.fault(), 20);
        Due.is("the highest first", Due.fault(new PostVotes(), "t=1?g"), -1);
        PostVotes y = new PostVotes();
        Due.is("bytes above 127", y.feed(-1, -1, -1, -1, Integer.MIN_VALUE), 17);
        Due.is("are bytes that no TEXT has", y.fault(), 0);
        y.end(0);
        Due.is("the greatest number", y.feed(Integer.MAX_VALUE, 0, 0, 0, 0), 4);
        for (int i = 1; i <= 255; i++) {
            PostVotes z = new PostVotes();
            Due.is("byte " + i + " and 0", z.feed(i << 24, i << 16, i << 8, i, 0), 4);
            Due.is("the TAPE has them", z.count(10), 4);
        }
        List<Integer> had = new ArrayList<>();
        y.end(0);
        for (int i = 0; i < 10; i++) {
            had.add(y.feed(-1, -1, -1, -1, -1));
        }
        Due.is("ten times twenty", had.get(9), 200);
        Due.is("none more", y.feed(0, 0, 0, 0, 0), 200);
    }

    private static void feedRefused() {
        Due.sentence("Promise 13", "NONE: more than 200.");
        for (int had = 180; had <= 200; had++) {
            for (int more = 0; more <= 20; more++) {
                PostVotes x = new PostVotes();
                for (int i = 0; i < 10; i++) {
                    x.feed(0x32323232, 0x32323232, 0x32323232, 0x32323232, 0x32323232);
                }
                x.end(had);
                int[] five = new int[5];
                for (int i = 0; i < more; i++) {
                    five[4 - i / 4] = five[4 - i / 4] << 8 | '1';
                }
                int due = had + more > 200 ? -1 : had + more;
                Due.is(more + " bytes more to " + had, x.feed(five[0], five[1], five[2], five[3], five[4]), due);
                Due.is("the TAPE then", x.count(10), due < 0 ? had : due);
            }
        }
        // what is left of a TAPE behind a refusal is a LAW yet
        StringBuilder text = new StringBuilder("1=1?v0");
        while (text.length() < 198) {
            text.append(";1=1?g");
        }
        PostVotes x = new PostVotes();
        Due.feed(x, text.toString());
        Due.is("198 bytes", x.count(10), 198);
        Due.is("three more", x.feed(0, 0, 0, 0, 0x3B313D), -1);
        Due.is("no FAULT", x.fault(), -1);
        Due.is("two more", x.feed(0x3B31 << 16, 0, 0, 0, 0), 200);
        Due.is("ends too early", x.fault(), 200);
        Refused.none("200 bytes to a TAPE of 13", y -> {
            y.end(13);
            for (int i = 0; i < 9; i++) {
                y.feed(0x20202020, 0x20202020, 0x20202020, 0x20202020, 0x20202020);
            }
            int answer = y.feed(0x20202020, 0x20202020, 0, 0, 0);
            Due.is("the TAPE has 193", y.count(10), 193);
            y.end(13);
            return answer;
        });
    }

    private static void end() {
        Due.sentence("Promise 14", "The TAPE has its first n bytes alone.");
        PostVotes x = new PostVotes();
        Due.yes("end(0) of none", x.end(0));
        Due.feed(x, "1=1?g;k=1?w");
        Due.yes("end(11) of eleven", x.end(11));
        Due.is("as before", x.fault(), -1);
        Due.yes("end(10) of eleven", x.end(10));
        Due.is("the last byte is gone", x.fault(), 10);
        Due.yes("end(5)", x.end(5));
        Due.is("a whole TEXT", x.fault(), -1);
        Due.is("five bytes", x.count(10), 5);
        Due.feed(x, ";2");
        Due.is("what follows comes behind them", x.fault(), 7);
        Due.yes("end(0)", x.end(0));
        Due.is("empty", x.count(10), 0);
        Due.is("nothing", x.fault(), 0);
    }

    private static void endRefused() {
        Due.sentence("Promise 14", "False: n.");
        Refused.each("end(#)", 0, new int[] {-1, 14, 200, 201}, (x, n) -> x.end(n) ? 1 : 0);
        Due.yes("end(13)", House.some().end(13));
        PostVotes x = new PostVotes();
        Due.no("end(1) of none", x.end(1));
        Due.feed(x, "12");
        x.end(1);
        Due.no("end(2) of one left", x.end(2));
        Due.is("one left", x.count(10), 1);
    }

    private static void fault() {
        Due.sentence("Promise 15", "The FAULT of the TAPE; NONE.");
        PostVotes x = new PostVotes();
        Due.is("of none", x.fault(), 0);
        Due.feed(x, "1=1?");
        Due.is("too early", x.fault(), 4);
        Due.is("asked again", x.fault(), 4);
        Due.feed(x, "g");
        Due.is("none", x.fault(), -1);
        Due.is("the TAPE stays", x.count(10), 5);
        Due.feed(x, "g");
        Due.is("the sixth byte", x.fault(), 5);
        PostVotes z = new PostVotes();
        z.voter(0, 0, 0);
        Due.feed(z, "[1+2]*3-4=5&1=1|t#t?v1;-[2-3]=1&!k#0?v2");
        for (int i = 0; i < 100; i++) {
            Due.is("asked time and again", z.fault(), -1);
        }
        Due.is("a LAW yet", z.law(0, 0), 0);
        House.come(z, 0, 0, 0);
        Due.is("by its first RULE", z.reason(0, 0), 1);
        StringBuilder text = new StringBuilder("1=1?g");
        while (text.length() < 200) {
            text.append(' ');
        }
        PostVotes y = new PostVotes();
        Due.feed(y, text.substring(0, 199) + "x");
        Due.is("the last of 200", y.fault(), 199);
        y.end(0);
        Due.feed(y, text.substring(0, 199) + ";");
        Due.is("200 bytes that end too early", y.fault(), 200);
    }

    private static void law() {
        Due.sentence("Promise 16", "The TAPE (empty then; if refused it stays) is a LAW of a SHIRE from a DAY on (0 .. 400): its number.");
        PostVotes x = new PostVotes();
        int[][] rows = {{0, 0}, {3, 400}, {3, 0}, {0, 400}};
        for (int i = 0; i < rows.length; i++) {
            Due.feed(x, "1=1?g");
            Due.is("law(" + rows[i][0] + ", " + rows[i][1] + ")", x.law(rows[i][0], rows[i][1]), i);
            Due.is("the TAPE is empty then", x.count(10), 0);
            Due.is("LAWS", x.count(5), i + 1);
            Due.is("in force", x.lawful(rows[i][0], rows[i][1], 0), i);
        }
        StringBuilder text = new StringBuilder("1=2?g");
        while (text.length() < 194) {
            text.append(" ");
        }
        text.append(";1=1?g");
        PostVotes y = House.under("1=1?w", 0);
        y.voter(1, 0, 0);
        Due.is("a LAW of 200 bytes", Due.feed(y, text.toString()), 200);
        Due.is("law of 200 bytes", y.law(1, 0), 1);
        House.come(y, 1, 0, 0);
        Due.is("its last byte", y.state(0, 0), 2);
        Due.is("its last RULE", y.ruled(0, 0), 1);
    }

    private static void lawStays() {
        Due.sentence("Promise 16", "(empty then; if refused it stays)");
        PostVotes x = new PostVotes();
        Due.feed(x, "1=1?v3;");
        Due.is("a FAULT", x.law(0, 0), -1);
        Due.is("it stays", x.count(10), 7);
        x.end(6);
        Due.is("no such SHIRE", x.law(4, 0), -1);
        Due.is("no such DAY", x.law(0, 401), -1);
        Due.is("it stays, too", x.count(10), 6);
        Due.is("a LAW at last", x.law(0, 0), 0);
        x.voter(0, 0, 0);
        House.come(x, 0, 0, 0);
        Due.is("of the very TEXT", x.reason(0, 0), 3);
        Due.is("the TAPE is empty: a FAULT", x.law(0, 0), -1);
        Due.is("one LAW", x.count(5), 1);
    }

    private static void lawRefused() {
        Due.sentence("Promise 16", "NONE: a FAULT, no such SHIRE, DAY; there were 30.");
        Refused.each("law(#, 0)", -1, new int[] {-1, 4}, (x, n) -> x.law(n, 0));
        Refused.each("law(0, #)", -1, new int[] {-1, 401}, (x, n) -> x.law(0, n));
        for (String text : new String[] {"", "1=1?", "1=1?gg", "(1=1?g", "12345=1?g", "1=1?v", "1=1?g;"}) {
            PostVotes x = new PostVotes();
            Due.feed(x, text);
            Due.is("law of " + text, x.law(0, 0), -1);
            Due.is("it stays: " + text, x.count(10), text.length());
            Due.is("no LAW of " + text, x.lawful(0, 400, 0), -1);
        }
        Refused.Maker full = () -> {
            PostVotes x = new PostVotes();
            x.voter(0, 0, 0);
            House.come(x, 0, 0, 0);
            for (int i = 0; i < 30; i++) {
                x.law(0, 0);
                Due.feed(x, i == 29 ? "1=1?v9" : "1=1?g");
                x.law(4, 0);
                Due.is("law " + i, x.law(i % 4 == 0 ? 0 : i % 2, 0), i);
            }
            Due.feed(x, "1=1?v5");
            return x;
        };
        Due.is("30 LAWS", full.make().count(5), 30);
        Refused.full("law(0, 0) of 30", full, -1, x -> x.law(0, 0));
    }

    private static void lawful() {
        Due.sentence("Promise 17", "The LAW of a SHIRE on a DAY (0 .. 400) as known in q.");
        PostVotes x = new PostVotes();
        Due.law(x, 3, "1=1?g");
        Due.feed(x, "1=1?g");
        x.law(3, 400);
        Due.is("on the first DAY", x.lawful(3, 0, 0), 0);
        Due.is("on DAY 399", x.lawful(3, 399, 0), 0);
        Due.is("on the last DAY", x.lawful(3, 400, 0), 1);
        x.days(1);
        Due.law(x, 0, "1=1?g");
        Due.is("told on the next DAY", x.lawful(0, 0, 1), 2);
        Due.is("as known in 0", x.lawful(0, 0, 0), -1);
    }

    private static void lawfulRefused() {
        Due.sentence("Promise 17", "NONE: none, no such ones.");
        Refused.each("lawful(#, 0, 0)", -1, new int[] {-1, 2, 3, 4}, (x, n) -> x.lawful(n, 0, 0));
        Refused.each("lawful(0, #, 0)", -1, new int[] {-1, 401}, (x, n) -> x.lawful(0, n, 0));
        Refused.each("lawful(0, 0, #)", -1, new int[] {-1, 11}, (x, n) -> x.lawful(0, 0, n));
        Due.is("the last ones", House.some().lawful(1, 400, 10), 1);
    }
}
