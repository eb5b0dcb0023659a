/** Promises 29 to 44: waves, boxes on the road, what is foretold, heaps and counts, at the bounds. */
final class CountBounds {
    private CountBounds() {
    }

    static void run() {
        wave();
        waveRefused();
        press();
        pressRefused();
        printed();
        printedRefused();
        latest();
        stand();
        standRefused();
        road();
        roadRefused();
        stops();
        stopsRefused();
        round();
        roundRefused();
        route();
        routeWithout();
        usual();
        usualRefused();
        usualHidden();
        ends();
        endsRefused();
        late();
        lateRefused();
        open();
        openRefused();
        heap();
        heapRefused();
        street();
        streetRefused();
        streetHidden();
        count();
        countRefused();
    }

    private static void wave() {
        Due.sentence("Promise 29", "A WAVE: its number.");
        PostVotes x = new PostVotes();
        int[][] rows = {{1, 0, 0}, {5000, 400, 400}, {1, 0, 400}, {1, 0, 0}};
        for (int i = 0; i < rows.length; i++) {
            Due.is("wave " + i, x.wave(rows[i][0], rows[i][1], rows[i][2]), i);
            Due.is("WAVES", x.count(11), i + 1);
        }
    }

    private static void waveRefused() {
        Due.sentence("Promise 29", "NONE: out of bounds, there are twelve.");
        Refused.each("wave(#, 0, 0)", -1, new int[] {-1, 0, 5001}, (x, n) -> x.wave(n, 0, 0));
        Refused.each("wave(1, #, 400)", -1, new int[] {-1, 401}, (x, n) -> x.wave(1, n, 400));
        Refused.each("wave(1, 5, #)", -1, new int[] {-1, 0, 4, 401}, (x, n) -> x.wave(1, 5, n));
        Refused.each("wave(1, #, #)", -1, new int[] {-1, 401}, (x, n) -> x.wave(1, n, n));
        Due.is("wave(1, 5, 5)", House.some().wave(1, 5, 5), 2);
        Refused.Maker full = () -> {
            PostVotes x = new PostVotes();
            for (int i = 0; i < 12; i++) {
                x.wave(1, 2, 1);
                x.wave(100, i, 400 - i);
            }
            return x;
        };
        Due.is("there are twelve, refused ones not counted", full.make().count(11), 12);
        Refused.full("wave(1, 0, 0) of twelve", full, -1, x -> x.wave(1, 0, 0));
    }

    private static void press() {
        Due.sentence("Promise 30", "PRESS.");
        PostVotes x = new PostVotes();
        x.wave(1001, 0, 0);
        Due.yes("the least", x.press(1));
        Due.is("END by it", x.printed(0), 1000);
        Due.yes("the greatest", x.press(1000));
        Due.is("END by that", x.printed(0), 1);
        x.wave(1, 0, 0);
        Due.is("of a WAVE told later", x.printed(1), 1);
    }

    private static void pressRefused() {
        Due.sentence("Promise 30", "False: out of bounds.");
        Refused.each("press(#)", 0, new int[] {-1, 0, 1001}, (x, n) -> x.press(n) ? 1 : 0);
        PostVotes x = new PostVotes();
        x.wave(101, 0, 0);
        Due.no("press(0)", x.press(0));
        Due.no("press(1001)", x.press(1001));
        Due.is("100 yet", x.printed(0), 1);
    }

    private static void printed() {
        Due.sentence("Promise 31", "END of a WAVE.");
        PostVotes x = new PostVotes();
        x.wave(100, 3, 400);
        Due.is("just the DAY's PRESS", x.printed(0), 3);
        x.wave(1, 3, 399);
        Due.is("one too many", x.printed(0), 4);
        Due.is("the one ahead of it", x.printed(1), 3);
        x.days(400);
        Due.is("NOW is no matter", x.printed(0), 4);
    }

    private static void printedRefused() {
        Due.sentence("Promise 31", "NONE: no such one.");
        Refused.each("printed(#)", -1, new int[] {-1, 2, 11, 12}, (x, n) -> x.printed(n));
        Due.is("no WAVE", new PostVotes().printed(0), -1);
        Due.is("the last one", House.some().printed(1), 2);
    }

    private static void latest() {
        Due.sentence("Promise 32", "LATEST.");
        PostVotes x = new PostVotes();
        Due.is("no WAVE", x.latest(), 0);
        x.wave(100, 400, 400);
        Due.is("on its DUE", x.latest(), 0);
        x.wave(1, 400, 400);
        Due.is("a DAY behind", x.latest(), 1);
        x.press(101);
        Due.is("on their DUES", x.latest(), 0);
        x.wave(1, 0, 0);
        Due.is("one more on its DUE", x.latest(), 0);
        Due.is("of two a DAY behind", House.some().latest(), 1);
    }

    private static void stand() {
        Due.sentence("Promise 33", "A BOX stands, OPEN from .. to (told again: that).");
        PostVotes x = new PostVotes();
        Due.yes("the first BOX, all the day", x.stand(0, 0, 1440));
        Due.is("home", x.round(0), 65);
        Due.yes("told again", x.stand(0, 31, 31));
        Due.is("home by that", x.round(0), 66);
        Due.is("just there", x.round(1), 66);
        Due.is("too late", x.round(2), -1);
        Due.is("one BOX only", x.route(0, 1), -1);
        Due.yes("the last BOX, the first minute", x.stand(7, 0, 0));
        Due.is("never there", x.round(0), -1);
        Due.yes("told again, the last minute", x.stand(7, 1440, 1440));
        Due.is("home by both", x.round(0), 1475);
        Due.is("the first", x.route(0, 0), 0);
        Due.is("the last", x.route(0, 1), 7);
    }

    private static void standRefused() {
        Due.sentence("Promise 33", "False: no such BOX, out of bounds, to ahead of from.");
        Refused.each("stand(#, 0, 1440)", 0, new int[] {-1, 8}, (x, n) -> x.stand(n, 0, 1440) ? 1 : 0);
        Refused.each("stand(0, #, 1440)", 0, new int[] {-1, 1441}, (x, n) -> x.stand(0, n, 1440) ? 1 : 0);
        Refused.each("stand(3, 200, #)", 0, new int[] {-1, 0, 199, 1441}, (x, n) -> x.stand(3, 200, n) ? 1 : 0);
        Refused.each("stand(5, #, #)", 0, new int[] {-1, 1441}, (x, n) -> x.stand(5, n, n) ? 1 : 0);
        Refused.no("stand(0, 1, 0)", x -> x.stand(0, 1, 0));
        Refused.no("stand(0, 1440, 1439)", x -> x.stand(0, 1440, 1439));
        Due.yes("stand(0, 1439, 1440)", House.some().stand(0, 1439, 1440));
    }

    private static void road() {
        Due.sentence("Promise 34", "A ROAD between two (BOXES, 8 the house).");
        PostVotes x = new PostVotes();
        x.stops(0);
        x.stand(0, 0, 1440);
        x.stand(7, 0, 1440);
        Due.yes("of the first BOX and the last, the least", x.road(0, 7, 1));
        Due.is("home", x.round(0), 61);
        Due.yes("of the house and the first BOX", x.road(8, 0, 2));
        Due.is("home then", x.round(0), 33);
        Due.yes("of the last BOX and the house, the greatest", x.road(7, 8, 300));
        Due.is("home at last", x.round(0), 303);
        Due.yes("told again", x.road(8, 7, 3));
        Due.is("home by that", x.round(0), 6);
        Due.yes("of a BOX that does not stand", x.road(5, 8, 1));
        Due.is("as before", x.round(0), 6);
    }

    private static void roadRefused() {
        Due.sentence("Promise 34", "False: no such ones, alike, out of bounds.");
        Refused.each("road(#, 0, 5)", 0, new int[] {-1, 9}, (x, n) -> x.road(n, 0, 5) ? 1 : 0);
        Refused.each("road(3, #, 5)", 0, new int[] {-1, 9}, (x, n) -> x.road(3, n, 5) ? 1 : 0);
        Refused.each("road(#, #, 5)", 0, new int[] {-1, 0, 1, 2, 3, 4, 5, 6, 7, 8, 9}, (x, n) -> x.road(n, n, 5) ? 1 : 0);
        Refused.each("road(8, 3, #)", 0, new int[] {-1, 0, 301}, (x, n) -> x.road(8, 3, n) ? 1 : 0);
        Refused.each("road(0, 3, #)", 0, new int[] {-1, 0, 301}, (x, n) -> x.road(0, 3, n) ? 1 : 0);
        Due.yes("road(7, 8, 300)", House.some().road(7, 8, 300));
    }

    private static void stops() {
        Due.sentence("Promise 35", "STOP.");
        PostVotes x = new PostVotes();
        x.stand(0, 0, 1440);
        x.stand(1, 0, 1440);
        Due.yes("the least", x.stops(0));
        Due.is("home", x.round(0), 90);
        Due.yes("the greatest", x.stops(30));
        Due.is("home then", x.round(0), 150);
    }

    private static void stopsRefused() {
        Due.sentence("Promise 35", "False: out of bounds.");
        Refused.each("stops(#)", 0, new int[] {-1, 31}, (x, n) -> x.stops(n) ? 1 : 0);
        PostVotes x = new PostVotes();
        x.stand(0, 0, 1440);
        Due.no("stops(31)", x.stops(31));
        Due.is("5 yet", x.round(0), 65);
    }

    private static void round() {
        Due.sentence("Promise 36", "The minute at which the BEST ROUND from a minute on (0 .. 1,440) comes home (that minute, if no BOX stands).");
        PostVotes x = new PostVotes();
        for (int from : new int[] {0, 1, 720, 1439, 1440}) {
            Due.is("no BOX, from " + from, x.round(from), from);
        }
        x.stand(0, 0, 1440);
        x.road(8, 0, 1);
        Due.is("from the first minute", x.round(0), 7);
        Due.is("from the last minute in time, home the next day", x.round(1439), 1446);
        Due.is("a minute too late", x.round(1440), -1);
        Due.is("from the first minute again", x.round(0), 7);
    }

    private static void roundRefused() {
        Due.sentence("Promise 36", "NONE: none, out of bounds.");
        Refused.each("round(#)", -1, new int[] {-1, 1441}, (x, n) -> x.round(n));
        Refused.none("round(1440), behind their ends", x -> x.round(1440));
        PostVotes x = new PostVotes();
        Due.is("no BOX, out of bounds", x.round(1441), -1);
        Due.is("no BOX, below", x.round(-1), -1);
        Due.is("no BOX, in bounds", x.round(1440), 1440);
    }

    private static void route() {
        Due.sentence("Promise 37", "Its i-th BOX.");
        PostVotes x = new PostVotes();
        int[] boxes = {0, 3, 7};
        for (int box : boxes) {
            x.stand(box, 0, 1440);
        }
        for (int i = 0; i < 3; i++) {
            Due.is("route(0, " + i + ")", x.route(0, i), boxes[i]);
        }
        x.stand(0, 1300, 1440);
        Due.is("from minute 0: the one that is shut, last", x.route(0, 2), 0);
        Due.is("from minute 1270: in their order", x.route(1270, 0), 0);
        Due.is("from minute 0 again", x.route(0, 0), 3);
        for (int box = 0; box < 8; box++) {
            x.stand(box, 0, 1440);
        }
        Due.is("the last of eight", x.route(0, 7), 7);
        Due.is("none behind it", x.route(0, 8), -1);
    }

    private static void routeWithout() {
        Due.sentence("Promise 37", "NONE without.");
        Refused.each("route(80, #)", -1, new int[] {-1, 2, 7, 8}, (x, n) -> x.route(80, n));
        Refused.each("route(#, 0)", -1, new int[] {-1, 1441}, (x, n) -> x.route(n, 0));
        Refused.none("route(1440, 0), no ROUND", x -> x.route(1440, 0));
        Due.is("the last one", House.some().route(80, 1) >= 0 ? 1 : 0, 1);
        Due.is("no BOX", new PostVotes().route(0, 0), -1);
    }

    private static void usual() {
        Due.sentence("Promise 38", "USUAL of a STREET.");
        PostVotes x = new PostVotes();
        x.size(1);
        x.voter(0, 0, 0);
        x.voter(3, 9, 0);
        x.days(400);
        House.come(x, 0, 0, 400);
        House.come(x, 1, 399, 400);
        Due.is("of the first STREET, the least part", x.usual(0, 1), 400);
        Due.is("of the last STREET, the greatest part", x.usual(9, 1000), 1);
    }

    private static void usualRefused() {
        Due.sentence("Promise 38", "NONE: no such STREET, part.");
        Refused.each("usual(#, 500)", -1, new int[] {-1, 10}, (x, n) -> x.usual(n, 500));
        Refused.each("usual(0, #)", -1, new int[] {-1, 0, 1001}, (x, n) -> x.usual(0, n));
        Due.is("no such part is not HIDDEN", new PostVotes().usual(0, 0), -1);
        Due.is("no such STREET is not HIDDEN", new PostVotes().usual(10, 1), -1);
        Due.is("usual(0, 1)", House.some().usual(0, 1), 2);
    }

    private static void usualHidden() {
        Due.sentence("Promise 38", "HIDDEN: fewer than SIZE come.");
        for (int size : new int[] {1, 2, 5, 50}) {
            PostVotes x = House.under("1=1?v1", 3);
            x.size(size);
            for (int i = 0; i < size; i++) {
                if (i == 0 || i == size - 1) {
                    Due.is("usual of " + i + ", SIZE " + size, x.usual(0, 1000), -2);
                }
                House.come(x, 0, 1, 3);
            }
            Due.is("usual of SIZE " + size, x.usual(0, 1000), 2);
            x.event(0, 4, 3, 0);
            Due.is("one does not come", x.usual(0, 1000), -2);
        }
    }

    private static void ends() {
        Due.sentence("Promise 39", "END of a SHIRE.");
        for (int shire = 0; shire < 4; shire++) {
            PostVotes x = new PostVotes();
            x.voter(shire, 0, 0);
            x.days(1);
            x.send(0, 0, 0);
            Due.yes("the least", x.ends(shire, 0));
            Due.is("NOW is behind it", x.late(0), 1);
            Due.yes("told again", x.ends(shire, 1));
            Due.is("NOW is that", x.late(0), 0);
            Due.yes("the greatest", x.ends(shire, 400));
            x.days(399);
            Due.is("NOW is the greatest", x.late(0), 0);
            Due.yes("a DAY ahead of it", x.ends(shire, 399));
            Due.is("late then", x.late(0), 1);
            for (int other = 0; other < 4; other++) {
                if (other != shire) {
                    x.ends(other, 400);
                }
            }
            Due.is("ENDS of other SHIRES", x.late(0), 1);
        }
    }

    private static void endsRefused() {
        Due.sentence("Promise 39", "False: no such one, out of bounds.");
        Refused.each("ends(#, 0)", 0, new int[] {-1, 4}, (x, n) -> x.ends(n, 0) ? 1 : 0);
        Refused.each("ends(0, #)", 0, new int[] {-1, 401}, (x, n) -> x.ends(0, n) ? 1 : 0);
        for (int n : new int[] {-1, 401}) {
            PostVotes x = new PostVotes();
            x.voter(2, 0, 0);
            x.days(300);
            x.send(0, 0, 0);
            Due.no("ends(2, " + n + ")", x.ends(2, n));
            Due.is("300 yet", x.late(0), 0);
            x.days(1);
            Due.is("300 yet, behind it", x.late(0), 1);
        }
    }

    private static void late() {
        Due.sentence("Promise 40", "Whether an ENVELOPE will be LATE (1, 0).");
        PostVotes x = House.on(300);
        x.voter(0, 0, 0);
        x.send(0, 0, 0);
        Due.is("on the END", x.late(0), 0);
        x.days(1);
        Due.is("behind the END", x.late(0), 1);
        Due.is("of others", House.some().late(5), 0);
        Due.is("of others, behind the END", House.some().late(6), 1);
    }

    private static void lateRefused() {
        Due.sentence("Promise 40", "NONE: no such one, it is not OUT.");
        Refused.each("late(#)", -1, new int[] {-1, 8, 200}, (x, n) -> x.late(n));
        for (int i : new int[] {0, 1, 2, 3, 4}) {
            Refused.none("late(" + i + ")", x -> x.late(i));
        }
        PostVotes x = House.on(400);
        x.voter(0, 0, 0);
        x.send(0, 0, 0);
        Due.is("OUT", x.late(0), 1);
        x.event(0, 4, 0, 0);
        Due.is("LOST", x.late(0), -1);
        x.event(0, 5, 0, 0);
        Due.is("LOST and FOUND, not come", x.late(0), -1);
        x.event(0, 2, 0, 0);
        Due.is("come", x.late(0), -1);
    }

    private static void open() {
        Due.sentence("Promise 41", "OPENING: the HEAP.");
        PostVotes x = House.counted("12345", 5);
        Due.is("the first", x.open(0), 0);
        for (int i = 5; i < 10; i++) {
            x.voter(0, 0, 0);
            House.come(x, i, 0, 0);
        }
        Due.is("the second", x.open(0), 1);
        Due.is("HEAPS", x.count(6), 2);
        Due.is("in HEAPS", x.count(7), 10);
        PostVotes y = House.under("1=1?w", 0);
        y.size(1);
        y.voter(3, 0, 0);
        Due.law(y, 3, "1=1?g");
        House.come(y, 1, 0, 0);
        Due.is("of the last SHIRE", y.open(3), 0);
    }

    private static void openRefused() {
        Due.sentence("Promise 41", "NONE: no such SHIRE, fewer than SIZE, there are 40.");
        Refused.each("open(#)", -1, new int[] {-1, 4}, (x, n) -> x.open(n));
        for (int shire = 0; shire < 4; shire++) {
            int of = shire;
            Refused.none("open(" + of + "), fewer than SIZE", x -> x.open(of));
        }
        PostVotes x = House.counted("1111", 5);
        Due.is("4 of SIZE 5", x.open(0), -1);
        Due.is("no HEAP", x.count(6), 0);
        x.voter(0, 0, 0);
        House.come(x, 4, 0, 0);
        Due.is("5 of SIZE 5", x.open(0), 0);
        Due.is("all five, the refused ones, too", x.heap(0, 5), 5);
        Refused.Maker full = () -> {
            PostVotes y = House.under("1=1?g", 0);
            y.size(1);
            for (int i = 0; i <= 40; i++) {
                House.come(y, i, 0, 0);
                y.voter(0, 0, 0);
                if (i < 40) {
                    y.open(1);
                    Due.is("open(0) number " + i, y.open(0), i);
                }
            }
            return y;
        };
        Refused.full("open(0) of 40", full, -1, y -> y.open(0));
    }

    private static void heap() {
        Due.sentence("Promise 42", "Of a HEAP: 0 .. 4 how many of that CHOICE, 5 of all, 6 its SHIRE, 7 the DAY it was opened.");
        PostVotes x = new PostVotes();
        x.size(1);
        Due.law(x, 3, "1=1?g");
        for (int i = 0; i < 6; i++) {
            x.voter(3, 0, 0);
            x.send(i, 0, i % 5);
            x.event(i, 2, 0, 0);
        }
        x.open(3);
        int[] due = {2, 1, 1, 1, 1, 6, 3, 0};
        for (int what = 0; what < due.length; what++) {
            Due.is("heap(0, " + what + ")", x.heap(0, what), due[what]);
        }
        x.days(400);
        x.voter(3, 0, 0);
        x.send(6, 0, 4);
        x.event(6, 2, 0, 0);
        x.open(3);
        int[] then = {0, 0, 0, 0, 1, 1, 3, 400};
        for (int what = 0; what < then.length; what++) {
            Due.is("heap(1, " + what + ")", x.heap(1, what), then[what]);
            Due.is("heap(0, " + what + ") yet", x.heap(0, what), due[what]);
        }
    }

    private static void heapRefused() {
        Due.sentence("Promise 42", "NONE for others.");
        Refused.each("heap(#, 5)", -1, new int[] {-1, 1, 39, 40}, (x, n) -> x.heap(n, 5));
        Refused.each("heap(0, #)", -1, new int[] {-1, 8, 9}, (x, n) -> x.heap(0, n));
        Due.is("no HEAP", new PostVotes().heap(0, 0), -1);
    }

    private static void street() {
        Due.sentence("Promise 43", "BY STREET.");
        PostVotes x = new PostVotes();
        x.size(1);
        Due.law(x, 3, "1=1?g");
        for (int i = 0; i < 5; i++) {
            x.voter(3, i < 3 ? 9 : 0, 0);
            x.send(i, 0, i < 2 ? 4 : 0);
            x.event(i, 2, 0, 0);
        }
        Due.is("no HEAP so far", x.street(3, 9, 4), -2);
        x.open(3);
        int[][] due = {{9, 4, 2}, {9, 0, 1}, {9, 3, 0}, {0, 0, 2}, {0, 4, 0}};
        for (int[] row : due) {
            Due.is("street(3, " + row[0] + ", " + row[1] + ")", x.street(3, row[0], row[1]), row[2]);
        }
    }

    private static void streetRefused() {
        Due.sentence("Promise 43", "NONE: no such ones.");
        Refused.each("street(#, 0, 0)", -1, new int[] {-1, 4}, (x, n) -> x.street(n, 0, 0));
        Refused.each("street(0, #, 0)", -1, new int[] {-1, 10}, (x, n) -> x.street(0, n, 0));
        Refused.each("street(0, 0, #)", -1, new int[] {-1, 5}, (x, n) -> x.street(0, 0, n));
        Due.is("no such one is not HIDDEN", new PostVotes().street(0, 0, 5), -1);
    }

    private static void streetHidden() {
        Due.sentence("Promise 43", "HIDDEN: it may not be told.");
        // these and others, of SIZE 2
        int[][] rows = {{0, 2, -2}, {1, 0, -3}, {1, 1, -2}, {1, 2, -2}, {2, 0, 2}, {2, 1, -2}, {2, 2, 2}, {3, 1, -2}, {3, 2, 3}, {2, 3, 2}};
        for (int[] row : rows) {
            PostVotes x = House.counted("11111".substring(0, row[0]) + "22222".substring(0, row[1]), 2);
            int opened = x.open(0);
            if (row[2] == -3) {
                Due.is("one alone is no HEAP", opened, -1);
                Due.is("and not told", x.street(0, 1, 0), -2);
            } else {
                Due.is("open", opened, 0);
                Due.is(row[0] + " and " + row[1] + " others", x.street(0, 1, 0), row[2]);
                Due.is("another CHOICE of them", x.street(0, 1, 1), Math.min(row[2], 0));
            }
        }
        for (int choice = 0; choice < 5; choice++) {
            int of = choice;
            Refused.as("street(0, 0, " + choice + "), one each", -2, x -> x.street(0, 0, of));
        }
    }

    private static void count() {
        Due.sentence("Promise 44", "0 NOW, 1 VOTERS, 2 ENVELOPES, 3 EVENTS, 4 EMPTYINGS, 5 LAWS, 6 HEAPS, 7 ENVELOPES in HEAPS, 8 WRONG, 9 COUNTED as known NOW,"
            + " 10 bytes of the TAPE, 11 WAVES.");
        PostVotes x = House.some();
        int[] due = {10, 4, 8, 9, 3, 2, 1, 2, 0, 3, 13, 2};
        for (int what = 0; what < due.length; what++) {
            Due.is("count(" + what + ")", x.count(what), due[what]);
        }
        x.event(0, 4, 10, 0);
        Due.is("WRONG", x.count(8), 1);
        Due.is("EVENTS", x.count(3), 10);
        x.event(0, 4, 9, 0);
        Due.is("EVENTS of a kind told again", x.count(3), 11);
        Due.is("in HEAPS yet", x.count(7), 2);
    }

    private static void countRefused() {
        Due.sentence("Promise 44", "NONE for others.");
        Refused.each("count(#)", -1, new int[] {-1, 12, 13}, (x, n) -> x.count(n));
    }
}
