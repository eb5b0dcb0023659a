/** Promises 29 to 32: waves, the press, their ends and the latest. */
public final class PrintTest {
    public static void main(String[] args) {
        waves();
        presses();
        shared();
        preempted();
        longOnes();
        latest();
        Due.end("PrintTest");
    }

    private static void waves() {
        PostVotes x = new PostVotes();
        int[][] wrong = {{0, 0, 0}, {-1, 0, 0}, {5001, 0, 0}, {1, -1, 0}, {1, 401, 401}, {1, 0, 401}, {1, 5, 4}, {1, 0, -1}};
        for (int[] row : wrong) {
            Due.is("wave", x.wave(row[0], row[1], row[2]), -1);
        }
        Due.is("no waves", x.count(11), 0);
        Due.is("wave least", x.wave(1, 0, 0), 0);
        Due.is("wave greatest", x.wave(5000, 400, 400), 1);
        for (int i = 2; i < 12; i++) {
            Due.is("wave " + i, x.wave(1, 0, 400), i);
        }
        Due.is("wave 13th", x.wave(1, 0, 0), -1);
        Due.is("12 waves", x.count(11), 12);
        Due.is("printed(11)", x.printed(11), 0);
        Due.is("printed(1)", x.printed(1), 449);
        Due.is("printed(12)", x.printed(12), -1);
        Due.is("printed(-1)", x.printed(-1), -1);
    }

    private static void presses() {
        PostVotes x = new PostVotes();
        x.wave(1000, 0, 0);
        Due.is("100 at first", x.printed(0), 9);
        Due.no("press(0)", x.press(0));
        Due.no("press(-1)", x.press(-1));
        Due.no("press(1001)", x.press(1001));
        Due.is("as before", x.printed(0), 9);
        Due.yes("press(1000)", x.press(1000));
        Due.is("in a day", x.printed(0), 0);
        Due.yes("press(1)", x.press(1));
        Due.is("one a day", x.printed(0), 999);
        Due.yes("press(999)", x.press(999));
        Due.is("one left", x.printed(0), 1);
        x.days(100);
        Due.is("not by NOW", x.printed(0), 1);
    }

    private static void shared() {
        PostVotes x = new PostVotes();
        x.wave(50, 0, 9);
        x.wave(30, 0, 8);
        x.wave(20, 0, 8);
        x.wave(1, 0, 9);
        Due.is("least due first", x.printed(1), 0);
        Due.is("of one due the lower number", x.printed(2), 0);
        Due.is("the rest of the day", x.printed(0), 0);
        Due.is("none left for it", x.printed(3), 1);
        x.press(49);
        Due.is("over a day's end", x.printed(2), 1);
        Due.is("then the next", x.printed(0), 2);
        Due.is("and the last", x.printed(3), 2);
    }

    private static void preempted() {
        PostVotes x = new PostVotes();
        x.press(10);
        x.wave(100, 2, 50);
        x.wave(25, 5, 20);
        x.wave(5, 30, 30);
        x.wave(12, 30, 40);
        // days 2 to 4 and 7 (5 of it) on for the first, 5 to 7 for the second
        Due.is("second", x.printed(1), 7);
        Due.is("first", x.printed(0), 14);
        Due.is("third", x.printed(2), 30);
        Due.is("fourth", x.printed(3), 31);
        x.wave(1, 2, 2);
        Due.is("one more ahead", x.printed(4), 2);
        Due.is("first within its day yet", x.printed(0), 14);
        PostVotes y = new PostVotes();
        y.press(10);
        y.wave(50, 0, 50);
        y.wave(1, 2, 2);
        Due.is("one comes between", y.printed(1), 2);
        Due.is("and makes it a day later", y.printed(0), 5);
    }

    private static void longOnes() {
        PostVotes x = new PostVotes();
        x.press(1);
        for (int i = 0; i < 12; i++) {
            x.wave(5000, 400 - i, 400);
        }
        // those that get ready later are of a lower number, and the due is one: they come ahead
        Due.is("lowest number", x.printed(0), 5399);
        Due.is("next", x.printed(1), 10398);
        Due.is("highest number", x.printed(11), 389 + 60000 - 1);
        Due.is("latest", x.latest(), 389 + 60000 - 1 - 400);
    }

    private static void latest() {
        PostVotes x = new PostVotes();
        Due.is("no waves", x.latest(), 0);
        x.wave(100, 0, 5);
        Due.is("none behind", x.latest(), 0);
        x.wave(100, 0, 0);
        Due.is("still none", x.latest(), 0);
        x.wave(300, 1, 3);
        Due.is("on its due", x.latest(), 0);
        x.press(50);
        Due.is("behind its due", x.latest(), 4);
        x.wave(400, 0, 0);
        Due.is("the greatest", x.latest(), 12);
        x.press(1000);
        Due.is("none again", x.latest(), 0);
        PostVotes y = new PostVotes();
        y.wave(1000, 0, 4);
        y.wave(1, 20, 20);
        Due.is("of the first one", y.latest(), 5);
    }
}
