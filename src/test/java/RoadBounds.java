/** Terms, part 4: waves, the press, boxes on the road and the best round. */
final class RoadBounds {
    private static final String PART = "Terms 4";

    private RoadBounds() {
    }

    static void run() {
        waves();
        press();
        leastDueFirst();
        readyAndDone();
        end();
        latest();
        open();
        roads();
        allOnce();
        waits();
        notBehindItsEnd();
        stays();
        homeFirst();
        lowerBox();
        mayBeNone();
        bestOfAllWays();
    }

    private static void waves() {
        Due.sentence(PART, "WAVES (12 at most): so many (1 .. 5,000), READY from a DAY on, DUE on a DAY (that or behind it; 0 .. 400 both).");
        PostVotes x = new PostVotes();
        int[][] refused = {{0, 0, 0}, {5001, 0, 0}, {1, -1, 0}, {1, -1, -1}, {1, 0, -1}, {1, 5, 4}, {1, 400, 399}, {1, 0, 401}, {1, 401, 401}, {1, 400, 401}};
        for (int[] row : refused) {
            Due.is("wave " + row[0] + " " + row[1] + " " + row[2], x.wave(row[0], row[1], row[2]), -1);
        }
        int[][] taken = {{1, 0, 0}, {5000, 0, 0}, {1, 400, 400}, {1, 0, 400}, {1, 5, 5}, {1, 399, 400}};
        for (int i = 0; i < 12; i++) {
            int[] row = taken[i % taken.length];
            Due.is("wave " + row[0] + " " + row[1] + " " + row[2], x.wave(row[0], row[1], row[2]), i);
        }
        Due.is("the 13th", x.wave(1, 0, 0), -1);
        Due.is("twelve", x.count(11), 12);
    }

    private static void press() {
        Due.sentence(PART, "PRINTED are on each DAY PRESS (1 .. 1,000; 100 at first) at most:");
        int[][] rows = {{1, 0}, {99, 0}, {100, 0}, {101, 1}, {199, 1}, {200, 1}, {201, 2}, {5000, 49}};
        for (int[] row : rows) {
            PostVotes x = new PostVotes();
            x.wave(row[0], 0, 0);
            Due.is("100 at first: END of " + row[0], x.printed(0), row[1]);
        }
        PostVotes x = new PostVotes();
        x.wave(5000, 0, 0);
        int[][] ends = {{1, 4999}, {2, 2499}, {3, 1666}, {999, 5}, {1000, 4}};
        for (int[] row : ends) {
            Due.yes("press " + row[0], x.press(row[0]));
            Due.is("END of 5,000 by " + row[0], x.printed(0), row[1]);
        }
        Due.no("press 0", x.press(0));
        Due.no("press 1,001", x.press(1001));
        Due.is("END as before", x.printed(0), 4);
    }

    private static void leastDueFirst() {
        Due.sentence(PART, "of WAVES that are READY and not done those with the least DUE first, of one DUE the lower number, as many as the DAY lets.");
        PostVotes x = new PostVotes();
        x.press(10);
        x.wave(6, 0, 5);
        x.wave(5, 0, 4);
        x.wave(9, 0, 5);
        x.wave(1, 0, 400);
        // day 0: five of 1, five of 0; day 1: one of 0, all nine of 2; day 2: 3
        Due.is("the least DUE", x.printed(1), 0);
        Due.is("of one DUE the lower number", x.printed(0), 1);
        Due.is("as many as the DAY lets", x.printed(2), 1);
        Due.is("none left of that DAY", x.printed(3), 2);
        x.press(11);
        Due.is("all of the first two fit", x.printed(0), 0);
        Due.is("the other of that DUE", x.printed(2), 1);
        Due.is("the last DUE fits the second DAY", x.printed(3), 1);
        x.press(20);
        Due.is("just all but one", x.printed(2), 0);
        Due.is("the one", x.printed(3), 1);
        x.press(21);
        Due.is("just all", x.printed(3), 0);
        PostVotes y = new PostVotes();
        y.press(1);
        for (int i = 0; i < 12; i++) {
            y.wave(1, 0, 11 - i);
        }
        for (int i = 0; i < 12; i++) {
            Due.is("by DUE, not by number", y.printed(i), 11 - i);
        }
    }

    private static void readyAndDone() {
        Due.sentence(PART, "of WAVES that are READY and not done");
        PostVotes x = new PostVotes();
        x.press(10);
        x.wave(30, 0, 9);
        x.wave(10, 2, 2);
        x.wave(5, 3, 9);
        // days 0 and 1 for wave 0, day 2 for wave 1, then wave 0 before wave 2, of one DUE
        Due.is("READY on its DAY", x.printed(1), 2);
        Due.is("that was in between", x.printed(0), 3);
        Due.is("not READY ahead of its DAY", x.printed(2), 4);
        x.wave(100, 5, 400);
        x.wave(1, 7, 7);
        x.wave(1, 9, 9);
        x.wave(20, 12, 12);
        // the long one is printed all but two pieces of days 7 and 9, and days 12 and 13
        Due.is("READY first of three", x.printed(4), 7);
        Due.is("READY second of three", x.printed(5), 9);
        Due.is("READY third of three", x.printed(6), 13);
        Due.is("a long one, with three in between", x.printed(3), 17);
        PostVotes z = new PostVotes();
        z.wave(1, 9, 9);
        z.wave(1, 7, 7);
        z.wave(1, 5, 5);
        for (int i = 0; i < 3; i++) {
            Due.is("none READY in between", z.printed(i), 9 - 2 * i);
        }
        PostVotes y = new PostVotes();
        y.wave(1, 400, 400);
        y.wave(1, 0, 400);
        Due.is("READY on the last DAY", y.printed(0), 400);
        Due.is("READY on the first DAY", y.printed(1), 0);
    }

    private static void end() {
        Due.sentence(PART, "END of a WAVE: the DAY on which its last one is PRINTED.");
        PostVotes x = new PostVotes();
        x.wave(100, 7, 9);
        Due.is("of one DAY", x.printed(0), 7);
        x.wave(101, 7, 10);
        Due.is("the last one on the third DAY", x.printed(1), 9);
        PostVotes y = new PostVotes();
        y.press(1);
        for (int i = 0; i < 12; i++) {
            y.wave(5000, 400, 400);
        }
        Due.is("behind all DAYS", y.printed(11), 400 + 60_000 - 1);
        Due.is("the first of them", y.printed(0), 400 + 5000 - 1);
    }

    private static void latest() {
        Due.sentence(PART, "LATEST: the greatest number of DAYS by which an END is behind its DUE (0, if none is).");
        PostVotes x = new PostVotes();
        Due.is("no WAVE", x.latest(), 0);
        x.wave(100, 0, 9);
        Due.is("ahead of its DUE", x.latest(), 0);
        x.wave(100, 0, 1);
        Due.is("a DAY ahead of its DUE", x.latest(), 0);
        x.wave(100, 0, 0);
        Due.is("two on their DUES", x.latest(), 0);
        x.wave(100, 0, 0);
        Due.is("one DAY behind", x.latest(), 1);
        x.wave(500, 1, 2);
        Due.is("the greatest", x.latest(), 5);
        PostVotes z = new PostVotes();
        z.wave(300, 0, 0);
        Due.is("of one WAVE", z.latest(), 2);
        z.wave(1, 9, 9);
        Due.is("the first is the latest", z.latest(), 2);
        PostVotes y = new PostVotes();
        y.press(1);
        for (int i = 0; i < 12; i++) {
            y.wave(5000, 0, 0);
        }
        Due.is("as late as can be", y.latest(), 59_999);
    }

    private static void open() {
        Due.sentence(PART, "BOXES 0 .. 7 may stand: OPEN from a minute to a minute (0 .. 1,440).");
        PostVotes x = new PostVotes();
        Due.no("BOX -1", x.stand(-1, 0, 1440));
        Due.no("BOX 8", x.stand(8, 0, 1440));
        Due.no("from -1", x.stand(0, -1, 1440));
        Due.no("to 1,441", x.stand(0, 0, 1441));
        Due.is("none stands", x.round(1440), 1440);
        for (int box = 0; box < 8; box++) {
            Due.yes("BOX " + box, x.stand(box, 0, 1440));
            Due.is("so many stand", x.route(0, box), box);
            Due.is("and no more", x.route(0, box + 1), -1);
        }
        PostVotes y = new PostVotes();
        Due.yes("at midnight alone", y.stand(0, 1440, 1440));
        Due.is("waits for it", y.round(0), 1475);
        Due.is("just there", y.round(1410), 1475);
        Due.is("behind it", y.round(1411), -1);
        Due.yes("at the first minute alone", y.stand(0, 0, 0));
        Due.is("never there", y.round(0), -1);
    }

    private static void roads() {
        Due.sentence(PART, "ROADS: minutes (1 .. 300; 30 at first) between each two of BOXES and the house, either way alike.");
        for (int one = 0; one <= 8; one++) {
            for (int other = 0; other <= 8; other++) {
                PostVotes x = new PostVotes();
                x.stops(0);
                x.stand(Math.min(one, 7), 0, 1440);
                boolean two = one != 8 && other != 8 && one != other;
                if (other != 8) {
                    x.stand(other, 0, 1440);
                }
                String road = "road " + one + " " + other;
                boolean is = one != other && (one == 8 || other == 8 || two);
                int at = x.round(0);
                Due.no(road + " of 0 minutes", x.road(one, other, 0));
                Due.no(road + " of 301 minutes", x.road(one, other, 301));
                Due.is(road + ": as before", x.round(0), at);
                Due.is(road, x.road(one, other, 1) ? 1 : 0, is ? 1 : 0);
                x.road(other, one, 300);
                if (two) {
                    Due.is(road + ": 30 at first", at, 90);
                    Due.is(road + ": told last the other way", x.round(0), 360);
                    x.road(one, other, 1);
                    Due.is(road + ": told last this way", x.round(0), 61);
                }
            }
        }
        for (int box = 0; box < 8; box++) {
            PostVotes x = new PostVotes();
            x.stops(0);
            x.stand(box, 0, 1440);
            Due.is("30 at first to " + box, x.round(0), 60);
            x.road(8, box, 1);
            Due.is("there and home alike", x.round(0), 2);
            x.road(box, 8, 300);
            Due.is("home and there alike", x.round(0), 600);
        }
    }

    private static void allOnce() {
        Due.sentence(PART, "A ROUND from a minute on goes from the house to all BOXES that stand, each once, and home;");
        PostVotes x = new PostVotes();
        Due.is("no BOX", x.round(5), 5);
        for (int box = 7; box >= 0; box--) {
            x.stand(box, 0, 1440);
            Due.is("home from " + (8 - box) + " BOXES", x.round(5), 5 + 30 * (9 - box) + 5 * (8 - box));
        }
        int all = 0;
        for (int i = 0; i < 8; i++) {
            all |= 1 << x.route(5, i);
        }
        Due.is("each once", all, 255);
        PostVotes y = new PostVotes();
        y.stand(2, 0, 1440);
        y.stand(4, 0, 1440);
        y.road(2, 4, 300);
        y.road(8, 2, 1);
        y.road(8, 4, 1);
        Due.is("not by the house in between", y.round(0), 1 + 5 + 300 + 5 + 1);
        y.stand(6, 0, 1440);
        y.road(2, 6, 1);
        y.road(4, 6, 1);
        Due.is("by a third BOX", y.round(0), 1 + 5 + 1 + 5 + 1 + 5 + 1);
    }

    private static void waits() {
        Due.sentence(PART, "at a BOX it waits till it is OPEN,");
        int[][] rows = {{29, 65}, {30, 65}, {31, 66}, {1440, 1475}};
        for (int[] row : rows) {
            PostVotes x = new PostVotes();
            x.stand(5, row[0], 1440);
            Due.is("OPEN from " + row[0], x.round(0), row[1]);
        }
    }

    private static void notBehindItsEnd() {
        Due.sentence(PART, "must be there not behind its end,");
        PostVotes x = new PostVotes();
        x.stand(5, 10, 30);
        Due.is("there on its end", x.round(0), 65);
        Due.is("a minute behind", x.round(1), -1);
        x.stand(5, 30, 30);
        Due.is("there on its only minute", x.round(0), 65);
        x.stand(5, 0, 29);
        Due.is("its end a minute ahead", x.round(0), -1);
        x.stand(5, 0, 30);
        x.stand(6, 0, 65);
        Due.is("the second one on its end, the STOP counted", x.round(0), 100);
        x.stand(6, 0, 64);
        Due.is("the second one a minute behind", x.round(0), -1);
        x.stand(6, 0, 67);
        x.stand(5, 32, 32);
        Due.is("the wait counted", x.round(0), 102);
        x.stand(6, 0, 66);
        Due.is("the wait counted, a minute behind", x.round(0), -1);
    }

    private static void stays() {
        Due.sentence(PART, "and stays STOP (0 .. 30; 5 at first) minutes.");
        PostVotes x = new PostVotes();
        x.stand(0, 0, 30);
        Due.is("5 at first", x.round(0), 65);
        Due.no("STOP -1", x.stops(-1));
        Due.no("STOP 31", x.stops(31));
        Due.is("as before", x.round(0), 65);
        Due.yes("STOP 0", x.stops(0));
        Due.is("no stay", x.round(0), 60);
        Due.yes("STOP 30", x.stops(30));
        Due.is("a stay past its end", x.round(0), 90);
    }

    private static void homeFirst() {
        Due.sentence(PART, "BEST comes home first;");
        PostVotes x = new PostVotes();
        x.stops(0);
        x.stand(0, 0, 1440);
        x.stand(1, 0, 1440);
        x.stand(2, 0, 1440);
        x.road(8, 0, 100);
        // 1, 0, 2 or 2, 0, 1 go past the long road
        Due.is("home", x.round(0), 120);
        Due.is("first", x.route(0, 0), 1);
        Due.is("second", x.route(0, 1), 0);
        Due.is("third", x.route(0, 2), 2);
        x.road(0, 2, 31);
        x.road(0, 1, 31);
        Due.is("a minute more each", x.round(0), 122);
        x.road(8, 0, 31);
        Due.is("by the house's road now", x.round(0), 122);
        Due.is("0 first, of two alike", x.route(0, 0), 0);
        x.road(8, 0, 30);
        Due.is("a minute sooner", x.round(0), 121);
        Due.is("0 first", x.route(0, 0), 0);
    }

    private static void lowerBox() {
        Due.sentence(PART, "of several the one with the lower BOX where they first differ.");
        PostVotes x = new PostVotes();
        for (int box = 7; box >= 0; box--) {
            x.stand(box, 0, 1440);
        }
        for (int i = 0; i < 8; i++) {
            Due.is("all alike", x.route(0, i), i);
        }
        x.road(8, 0, 31);
        for (int i = 0; i < 8; i++) {
            Due.is("0 neither first nor last", x.route(0, i), i == 0 ? 1 : i == 1 ? 0 : i);
        }
        // the wait at 7 makes all that come there ahead of it alike
        PostVotes y = new PostVotes();
        y.stand(1, 0, 1440);
        y.stand(2, 0, 1440);
        y.stand(7, 500, 1440);
        y.road(8, 1, 60);
        y.road(2, 7, 50);
        Due.is("home behind the wait", y.round(0), 535);
        Due.is("the lower one first, though it is longer", y.route(0, 0), 1);
        Due.is("then the next", y.route(0, 1), 2);
        Due.is("the wait last", y.route(0, 2), 7);
    }

    private static void mayBeNone() {
        Due.sentence(PART, "There may be none.");
        PostVotes x = new PostVotes();
        x.stand(0, 0, 40);
        x.stand(1, 0, 40);
        Due.is("each alone could be reached", x.round(0), -1);
        Due.is("no BOX of it", x.route(0, 0), -1);
        x.road(0, 1, 5);
        Due.is("now both", x.round(0), 75);
        Due.is("from a minute later", x.round(1), -1);
    }

    private static long lot = 20261119;

    private static int lot(int least, int most) {
        lot = lot * 2862933555777941757L + 3037000493L;
        return least + (int) ((lot >>> 33) % (most - least + 1));
    }

    /** Roads, hours and stops by lots, and every order of the BOXES tried. */
    private static void bestOfAllWays() {
        Due.sentence(PART, "BEST comes home first; of several the one with the lower BOX where they first differ. There may be none.");
        int none = 0;
        for (int run = 0; run < 400; run++) {
            PostVotes x = new PostVotes();
            int[][] roads = new int[9][9];
            // long and short roads, or short ones alone, so that many are alike
            int longest = run % 2 == 0 ? 300 : 4;
            for (int one = 0; one < 9; one++) {
                for (int other = 0; other < one; other++) {
                    roads[one][other] = lot(1, lot(0, 1) == 0 ? longest : 9);
                    roads[other][one] = roads[one][other];
                    x.road(one, other, roads[one][other]);
                }
            }
            int stop = lot(0, 3);
            x.stops(stop);
            int[][] hours = new int[8][];
            for (int i = lot(1, 6); i > 0; i--) {
                int box = lot(0, 7);
                int from = lot(0, 2) == 0 ? lot(0, 200) : 0;
                hours[box] = new int[] {from, lot(0, 3) == 0 ? from + lot(0, 300) : 1440};
                x.stand(box, hours[box][0], hours[box][1]);
            }
            int start = lot(0, 60);
            int[] best = {-1, -1, -1, -1, -1, -1, -1};
            tryAll(roads, hours, stop, new int[] {8, start}, new int[7], 1, best);
            Due.is("run " + run + ": round(" + start + ")", x.round(start), best[0]);
            for (int i = 0; i < 6; i++) {
                Due.is("run " + run + ": route(" + start + ", " + i + ")", x.route(start, i), best[i + 1]);
            }
            none += best[0] < 0 ? 1 : 0;
        }
        Due.yes("some have no ROUND, and most have one: " + none, none > 20 && none < 200);
    }

    /** Goes on from a place and a minute to all BOXES not in the way so far, the lower ones first. */
    private static void tryAll(int[][] roads, int[][] hours, int stop, int[] at, int[] way, int been, int[] best) {
        boolean last = true;
        for (int box = 0; box < 8; box++) {
            boolean open = hours[box] != null;
            for (int i = 1; i < been; i++) {
                open = open && way[i] != box;
            }
            last = last && !open;
            int there = at[1] + roads[at[0]][box];
            if (open && there <= hours[box][1]) {
                way[been] = box;
                tryAll(roads, hours, stop, new int[] {box, Math.max(there, hours[box][0]) + stop}, way, been + 1, best);
            }
        }
        int home = at[1] + roads[at[0]][8];
        if (last && (best[0] < 0 || home < best[0])) {
            for (int i = 0; i < best.length; i++) {
                best[i] = i == 0 ? home : i < been ? way[i] : -1;
            }
        }
    }
}
