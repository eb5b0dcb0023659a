/** Promises 38 to 44: what is usual and late, heaps, what is told of them, and the counts. */
public final class HeapTest {
    public static void main(String[] args) {
        usual();
        usualBounds();
        ends();
        late();
        lateByNow();
        heaps();
        heapShires();
        heapBounds();
        streets();
        wrongOnes();
        counts();
        Due.end("HeapTest");
    }

    private static PostVotes all(String law, int voters) {
        PostVotes x = new PostVotes();
        Due.law(x, 0, law);
        for (int i = 0; i < voters; i++) {
            x.voter(0, 0, 0);
        }
        return x;
    }

    private static void usual() {
        PostVotes x = all("1=1?g", 2);
        x.voter(0, 1, 0);
        x.days(50);
        int[] took = {3, 1, 10, 4, 1, 20, 2, 7, 5, 6};
        for (int i = 0; i < 10; i++) {
            x.send(i % 2, 10, 0);
            x.event(i, 2, 10 + took[i], 0);
        }
        int[][] due = {{1, 1}, {200, 1}, {201, 2}, {300, 2}, {500, 4}, {501, 5}, {800, 7}, {801, 10}, {900, 10}, {901, 20}, {1000, 20}};
        for (int[] row : due) {
            Due.is("usual of " + row[0], x.usual(0, row[0]), row[1]);
        }
        Due.is("of another street", x.usual(1, 500), -2);
        x.send(2, 30, 0);
        x.event(10, 2, 5, 0);
        x.size(1);
        Due.is("come ahead of its sending", x.usual(1, 1000), 0);
        x.event(5, 4, 50, 0);
        Due.is("a lost one does not come", x.usual(0, 1000), 10);
    }

    private static void usualBounds() {
        PostVotes x = all("1=1?w", 1);
        x.days(400);
        for (int i = 0; i < 5; i++) {
            Due.is("fewer than five", x.usual(0, 500), -2);
            x.send(0, 0, 0);
            x.event(i, 2, 400, 0);
        }
        Due.is("five, in whatever state", x.usual(0, 500), 400);
        Due.is("usual street -1", x.usual(-1, 500), -1);
        Due.is("usual street 10", x.usual(10, 500), -1);
        Due.is("usual part 0", x.usual(0, 0), -1);
        Due.is("usual part 1001", x.usual(0, 1001), -1);
        x.size(6);
        Due.is("fewer than six", x.usual(0, 500), -2);
        PostVotes y = all("1=1?g", 1);
        y.days(9);
        y.size(3);
        for (int i = 0; i < 3; i++) {
            y.send(0, 0, 0);
            y.event(i, 2, i + 1, 0);
        }
        int[][] due = {{333, 1}, {334, 2}, {666, 2}, {667, 3}};
        for (int[] row : due) {
            Due.is("of three, usual of " + row[0], y.usual(0, row[0]), row[1]);
        }
    }

    private static void ends() {
        PostVotes x = all("1=1?g", 1);
        Due.no("ends shire -1", x.ends(-1, 0));
        Due.no("ends shire 4", x.ends(4, 0));
        Due.no("ends day -1", x.ends(0, -1));
        Due.no("ends day 401", x.ends(0, 401));
        x.days(300);
        x.send(0, 300, 0);
        Due.is("300 at first: not behind", x.late(0), 0);
        x.days(1);
        Due.is("300 at first: behind", x.late(0), 1);
        Due.yes("ends 400", x.ends(0, 400));
        Due.is("not late now", x.late(0), 0);
        Due.yes("ends 0", x.ends(0, 0));
        Due.is("late now", x.late(0), 1);
        Due.yes("ends of another", x.ends(3, 400));
        Due.is("late yet", x.late(0), 1);
    }

    private static void late() {
        PostVotes x = all("1=1?g", 1);
        x.days(100);
        for (int i = 0; i < 10; i++) {
            x.send(0, 0, 0);
            x.event(i, 2, i + 1, 0);
        }
        x.send(0, 20, 0);
        Due.is("usual of 900", x.usual(0, 900), 9);
        x.ends(0, 29);
        Due.is("on the end", x.late(10), 0);
        x.ends(0, 28);
        Due.is("behind the end", x.late(10), 1);
        x.move(0, 1, 100);
        Due.is("its shire now", x.late(10), 0);
        x.ends(1, 28);
        Due.is("its shire's end", x.late(10), 1);
        Due.is("one that came", x.late(0), -1);
        x.event(10, 4, 99, 0);
        Due.is("a lost one", x.late(10), -1);
        Due.is("late envelope 11", x.late(11), -1);
        Due.is("late envelope -1", x.late(-1), -1);
    }

    private static void lateByNow() {
        PostVotes x = all("1=1?g", 1);
        x.voter(0, 1, 0);
        x.days(50);
        for (int i = 0; i < 5; i++) {
            x.send(0, 10, 0);
        }
        for (int i = 0; i < 4; i++) {
            x.event(i, 2, 11, 0);
        }
        x.ends(0, 49);
        Due.is("four came: by NOW", x.late(4), 1);
        x.ends(0, 50);
        Due.is("NOW is the end", x.late(4), 0);
        x.send(1, 10, 0);
        x.ends(0, 49);
        x.size(4);
        Due.is("four are enough: by USUAL", x.late(4), 0);
        Due.is("another street: by NOW", x.late(5), 1);
    }

    private static void heaps() {
        PostVotes x = all("p=-1?g", 7);
        x.days(3);
        for (int i = 0; i < 7; i++) {
            x.send(i, 0, i % 3);
            if (i < 4) {
                x.event(i, 2, 1, 0);
            }
        }
        Due.is("four are too few", x.open(0), -1);
        Due.is("open shire 4", x.open(4), -1);
        Due.is("open shire -1", x.open(-1), -1);
        Due.is("open of another shire", x.open(1), -1);
        x.event(4, 2, 1, 0);
        Due.is("five are enough", x.open(0), 0);
        int[] due = {2, 2, 1, 0, 0, 5, 0, 3, -1};
        for (int what = 0; what <= 8; what++) {
            Due.is("heap(0, " + what + ")", x.heap(0, what), due[what]);
        }
        Due.is("heap(0, -1)", x.heap(0, -1), -1);
        Due.is("heap(1, 5)", x.heap(1, 5), -1);
        Due.is("heap(-1, 5)", x.heap(-1, 5), -1);
        x.event(5, 2, 1, 0);
        x.event(6, 2, 1, 0);
        Due.is("two new ones are too few", x.open(0), -1);
        Due.is("in heaps", x.count(7), 5);
        Due.is("counted", x.count(9), 7);
    }

    private static void heapShires() {
        PostVotes x = all("1=1?g", 3);
        Due.law(x, 2, "1=1?g");
        x.size(1);
        x.days(9);
        for (int i = 0; i < 3; i++) {
            x.send(i, 0, 4);
            x.event(i, 2, 4 + i, 0);
            x.move(i, 2, 5);
        }
        Due.is("of the day it comes", x.open(2), 0);
        Due.is("two", x.heap(0, 5), 2);
        Due.is("its shire", x.heap(0, 6), 2);
        Due.is("its choice", x.heap(0, 4), 2);
        x.days(2);
        Due.is("the other", x.open(0), 1);
        Due.is("its day", x.heap(1, 7), 11);
        x.send(0, 11, 0);
        x.event(3, 2, 11, 0);
        Due.is("not first of its voter", x.open(2), -1);
        x.event(0, 2, 11, 0);
        x.event(3, 2, 10, 0);
        Due.is("first now", x.open(2), 2);
        Due.is("only it", x.heap(2, 0), 1);
    }

    private static void heapBounds() {
        PostVotes x = all("1=1?g", 41);
        x.size(1);
        for (int i = 0; i < 40; i++) {
            x.send(i, 0, 0);
            x.event(i, 2, 0, 0);
            Due.is("heap " + i, x.open(0), i);
        }
        x.send(40, 0, 0);
        x.event(40, 2, 0, 0);
        Due.is("heap 41st", x.open(0), -1);
        Due.is("40 heaps", x.count(6), 40);
        Due.is("40 envelopes", x.count(7), 40);
        Due.is("of one street, no others", x.street(0, 0, 0), 40);
    }

    private static PostVotes streetsOf(String streets, int size) {
        PostVotes x = new PostVotes();
        Due.law(x, 0, "1=1?g");
        x.size(size);
        for (int i = 0; i < streets.length(); i++) {
            x.voter(0, streets.charAt(i) - '0', 0);
            x.send(i, 0, i % 2);
            x.event(i, 2, 0, 0);
        }
        return x;
    }

    private static void streets() {
        PostVotes x = streetsOf("1111222", 3);
        Due.is("no heap: hidden", x.street(0, 1, 0), -2);
        x.open(0);
        Due.is("street 1", x.street(0, 1, 0), 2);
        Due.is("street 1, no such choice inside", x.street(0, 1, 4), 0);
        Due.is("street 2", x.street(0, 2, 1), 1);
        Due.is("street 2, one choice of few", x.street(0, 2, 0), 2);
        Due.is("a street of none", x.street(0, 3, 0), -2);
        Due.is("another shire", x.street(1, 1, 0), -2);
        Due.is("street shire -1", x.street(-1, 0, 0), -1);
        Due.is("street shire 4", x.street(4, 0, 0), -1);
        Due.is("street -1", x.street(0, -1, 0), -1);
        Due.is("street 10", x.street(0, 10, 0), -1);
        Due.is("street choice -1", x.street(0, 0, -1), -1);
        Due.is("street choice 5", x.street(0, 0, 5), -1);
        PostVotes y = streetsOf("111122", 3);
        y.open(0);
        Due.is("too few others", y.street(0, 1, 0), -2);
        Due.is("too few themselves", y.street(0, 2, 0), -2);
        for (int i = 6; i < 9; i++) {
            y.voter(0, 2, 0);
            y.send(i, 0, 0);
            y.event(i, 2, 0, 0);
        }
        Due.is("not in a heap so far", y.street(0, 1, 0), -2);
        y.open(0);
        Due.is("in two heaps: enough others", y.street(0, 1, 0), 2);
        Due.is("in two heaps: the sum", y.street(0, 2, 0), 4);
    }

    private static void wrongOnes() {
        PostVotes x = all("p=-1?g;1=1?v1", 3);
        x.size(1);
        for (int i = 0; i < 3; i++) {
            x.send(i, 0, 0);
            x.event(i, 2, 0, 0);
        }
        x.open(0);
        Due.is("none wrong", x.count(8), 0);
        x.event(0, 7, 0, 0);
        Due.is("void now", x.count(8), 1);
        x.event(1, 4, 0, 0);
        Due.is("lost now", x.count(8), 2);
        x.days(1);
        x.event(2, 2, 1, 0);
        x.send(2, 0, 0);
        x.event(3, 2, 0, 0);
        Due.is("second now", x.count(8), 3);
        Due.is("in the heap yet", x.count(7), 3);
        Due.is("and told of", x.heap(0, 5), 3);
        x.event(0, 7, 0, 0);
        Due.is("counted", x.count(9), 1);
    }

    private static void counts() {
        PostVotes x = new PostVotes();
        x.days(6);
        x.voter(0, 0, 0);
        x.voter(0, 0, 0);
        x.voter(0, 0, 0);
        Due.law(x, 0, "1=1?g");
        Due.law(x, 0, "1=1?g");
        x.send(0, 0, 0);
        x.send(1, 0, 0);
        x.send(1, 0, 0);
        x.send(2, 0, 0);
        for (int i = 0; i < 4; i++) {
            x.event(i, 2, 0, 0);
        }
        x.event(0, 2, 1, 0);
        x.empty(0, 0, 0);
        x.empty(0, 0, 0);
        x.size(1);
        x.open(0);
        x.event(2, 1, 0, 0);
        x.event(0, 4, 0, 0);
        Due.feed(x, "1=1?w;1");
        x.wave(1, 0, 0);
        int[] due = {6, 3, 4, 7, 2, 2, 1, 3, 1, 2, 7, 1};
        for (int what = 0; what < due.length; what++) {
            Due.is("count(" + what + ")", x.count(what), due[what]);
        }
        Due.is("count(-1)", x.count(-1), -1);
        Due.is("count(12)", x.count(12), -1);
    }
}
