/** Promises 33 to 37: boxes that stand, roads, stops, the best round and its boxes. */
public final class RoundTest {
    public static void main(String[] args) {
        standing();
        roads();
        stopping();
        rounds();
        windows();
        lowestFirst();
        allBoxes();
        Due.end("RoundTest");
    }

    private static void standing() {
        PostVotes x = new PostVotes();
        Due.no("stand box -1", x.stand(-1, 0, 10));
        Due.no("stand box 8", x.stand(8, 0, 10));
        Due.no("stand from -1", x.stand(0, -1, 10));
        Due.no("stand to 1441", x.stand(0, 0, 1441));
        Due.no("stand from 1441", x.stand(0, 1441, 1441));
        Due.no("stand to ahead of from", x.stand(0, 11, 10));
        Due.is("none stands", x.round(7), 7);
        Due.yes("stand", x.stand(7, 40, 40));
        Due.is("waits", x.round(0), 75);
        Due.is("there on its end", x.round(10), 75);
        Due.is("too late", x.round(11), -1);
        Due.yes("told again", x.stand(7, 1440, 1440));
        Due.is("open later", x.round(1410), 1475);
        Due.is("once only", x.route(1410, 1), -1);
        Due.yes("stand 0", x.stand(0, 0, 1440));
        Due.is("both", x.route(1000, 1), 7);
    }

    private static void roads() {
        PostVotes x = new PostVotes();
        x.stand(1, 0, 1440);
        Due.no("road alike", x.road(1, 1, 10));
        Due.no("road -1", x.road(-1, 1, 10));
        Due.no("road 9", x.road(1, 9, 10));
        Due.no("road to -1", x.road(1, -1, 10));
        Due.no("road from 9", x.road(9, 1, 10));
        Due.no("road minutes 0", x.road(1, 8, 0));
        Due.no("road minutes 301", x.road(1, 8, 301));
        Due.is("30 at first", x.round(0), 65);
        Due.yes("road", x.road(8, 1, 1));
        Due.is("either way", x.round(0), 7);
        Due.yes("road again", x.road(1, 8, 300));
        Due.is("either way again", x.round(0), 605);
        x.stand(2, 0, 1440);
        Due.yes("road between boxes", x.road(2, 1, 7));
        Due.is("way round", x.round(0), 300 + 7 + 30 + 10);
        Due.is("first", x.route(0, 0), 1);
    }

    private static void stopping() {
        PostVotes x = new PostVotes();
        x.stand(1, 0, 1440);
        Due.no("stops(-1)", x.stops(-1));
        Due.no("stops(31)", x.stops(31));
        Due.is("5 at first", x.round(0), 65);
        Due.yes("stops(30)", x.stops(30));
        Due.is("30", x.round(0), 90);
        Due.yes("stops(0)", x.stops(0));
        Due.is("0", x.round(0), 60);
    }

    private static void rounds() {
        PostVotes x = new PostVotes();
        Due.is("round 0 without boxes", x.round(0), 0);
        Due.is("round -1", x.round(-1), -1);
        Due.is("round 1441", x.round(1441), -1);
        Due.is("round 1440 without boxes", x.round(1440), 1440);
        Due.is("route without boxes", x.route(0, 0), -1);
        x.stand(4, 0, 1440);
        Due.is("route", x.route(0, 0), 4);
        Due.is("route -1", x.route(0, -1), -1);
        Due.is("route 1", x.route(0, 1), -1);
        Due.is("route from -1", x.route(-1, 0), -1);
        Due.is("route from 1441", x.route(1441, 0), -1);
        Due.is("round behind its end", x.round(1440), -1);
        Due.is("route of none", x.route(1440, 0), -1);
        Due.is("route again", x.route(3, 0), 4);
        Due.is("round again", x.round(3), 68);
        PostVotes y = new PostVotes();
        y.stand(0, 0, 1440);
        Due.is("box 0 alone", y.round(0), 65);
        Due.is("its route", y.route(0, 0), 0);
    }

    private static void windows() {
        PostVotes x = new PostVotes();
        x.stand(0, 100, 200);
        x.stand(1, 0, 60);
        Due.is("the one that closes first", x.route(0, 0), 1);
        Due.is("home", x.round(0), 135);
        Due.is("too late for it", x.round(31), -1);
        x.stand(1, 0, 1440);
        Due.is("any way", x.round(0), 135);
        Due.is("not past the open one", x.route(0, 0), 1);
        x.stand(0, 0, 30);
        Due.is("now that one", x.route(0, 0), 0);
        Due.is("home then", x.round(0), 100);
        // a stop counts for the next one's end
        x.stand(1, 0, 65);
        Due.is("in time", x.round(0), 100);
        x.stand(1, 0, 64);
        Due.is("not in time", x.round(0), -1);
        x.stops(4);
        Due.is("in time with a shorter stop", x.round(0), 98);
    }

    private static void lowestFirst() {
        PostVotes x = new PostVotes();
        x.stand(2, 0, 1440);
        x.stand(5, 0, 1440);
        x.stand(6, 0, 1440);
        for (int i = 0; i < 3; i++) {
            Due.is("in order " + i, x.route(0, i), new int[] {2, 5, 6}[i]);
        }
        x.stand(6, 0, 30);
        for (int i = 0; i < 3; i++) {
            Due.is("6 first " + i, x.route(0, i), new int[] {6, 2, 5}[i]);
        }
        // alike both ways round, for roads are
        x.stand(6, 0, 1440);
        x.road(5, 6, 1);
        x.road(8, 2, 2);
        Due.is("of both ways round", x.route(0, 0), 2);
        Due.is("then the lower", x.route(0, 1), 5);
        Due.is("home", x.round(0), 2 + 30 + 1 + 30 + 15);
    }

    private static void allBoxes() {
        PostVotes x = new PostVotes();
        for (int box = 0; box < 8; box++) {
            x.stand(box, 0, 1440);
        }
        int[] way = {8, 3, 0, 7, 1, 6, 2, 5, 4, 8};
        for (int i = 1; i < way.length; i++) {
            x.road(way[i - 1], way[i], i == 9 ? 4 : 3);
        }
        Due.is("home", x.round(10), 10 + 8 * 3 + 4 + 40);
        for (int i = 0; i < 8; i++) {
            Due.is("box " + i, x.route(10, i), way[i + 1]);
        }
        Due.is("no ninth", x.route(10, 8), -1);
        x.stand(4, 0, 17);
        Due.is("the other way", x.route(10, 0), 4);
        Due.is("home alike", x.round(10), 78);
        Due.is("last", x.route(10, 7), 3);
    }
}
