/** Terms, parts 5 and 6: what is foretold, and heaps. */
final class HeapBounds {
    private static final String LATE = "Terms 5";
    private static final String HEAPS = "Terms 6";

    private HeapBounds() {
    }

    static void run() {
        daysTaken();
        usual();
        usualOfMany();
        lateByUsual();
        lateByNow();
        fortyHeaps();
        whatIsTaken();
        onTheDayItComes();
        fewerThanSize();
        whatIsTold();
        theseOfAStreet();
        othersOfAStreet();
        allHeapsOfAShire();
        wrongOnes();
    }

    private static void daysTaken() {
        Due.sentence(LATE, "FORETOLD: of a STREET the DAYS from SENT to coming (at least 0) of its VOTERS' ENVELOPES that come, as known NOW:");
        int[][] rows = {{0, 0, 0}, {0, 1, 1}, {5, 4, 0}, {5, 0, 0}, {5, 5, 0}, {0, 400, 400}, {400, 400, 0}, {400, 0, 0}};
        for (int[] row : rows) {
            PostVotes x = House.under("1=1?g", 400);
            x.size(1);
            House.come(x, 0, row[0], row[1]);
            Due.is("SENT on " + row[0] + ", come on " + row[1], x.usual(0, 1000), row[2]);
        }
        PostVotes x = House.under("1=1?v1", 9);
        x.size(1);
        x.send(0, 0, 0);
        Due.is("one that is OUT", x.usual(0, 1), -2);
        x.event(0, 2, 4, 0);
        Due.is("one that came, VOID", x.usual(0, 1), 4);
        x.event(0, 4, 4, 0);
        Due.is("one that is LOST", x.usual(0, 1), -2);
        x.event(0, 5, 7, 0);
        Due.is("one that is FOUND", x.usual(0, 1), 7);
        Due.is("of another STREET", x.usual(1, 1), -2);
        x.days(1);
        x.event(0, 2, 10, 0);
        Due.is("as known NOW", x.usual(0, 1), 10);
    }

    private static void usual() {
        Due.sentence(LATE, "USUAL of a part p (1 .. 1,000): the least number of DAYS that at least p thousandths of them took at most.");
        PostVotes x = House.under("1=1?g", 20);
        x.size(1);
        Due.is("of none", x.usual(0, 500), -2);
        House.come(x, 0, 10, 17);
        Due.is("p 0", x.usual(0, 0), -1);
        Due.is("p 1 of one", x.usual(0, 1), 7);
        Due.is("p 1,000 of one", x.usual(0, 1000), 7);
        Due.is("p 1,001", x.usual(0, 1001), -1);
        House.come(x, 0, 10, 15);
        Due.is("p 500 of two", x.usual(0, 500), 5);
        Due.is("p 501 of two", x.usual(0, 501), 7);
        House.come(x, 0, 10, 16);
        int[][] due = {{1, 5}, {333, 5}, {334, 6}, {666, 6}, {667, 7}, {1000, 7}};
        for (int[] row : due) {
            Due.is("p " + row[0] + " of three", x.usual(0, row[0]), row[1]);
        }
        House.come(x, 0, 10, 16);
        int[][] then = {{250, 5}, {251, 6}, {750, 6}, {751, 7}};
        for (int[] row : then) {
            Due.is("p " + row[0] + " of four", x.usual(0, row[0]), row[1]);
        }
    }

    private static void usualOfMany() {
        Due.sentence(LATE, "the least number of DAYS that at least p thousandths of them took at most.");
        PostVotes x = House.under("1=1?g", 400);
        for (int i = 0; i < 200; i++) {
            House.come(x, 0, 0, i + 1);
        }
        int[][] due = {{1, 1}, {5, 1}, {6, 2}, {10, 2}, {11, 3}, {900, 180}, {901, 181}, {995, 199}, {996, 200}, {1000, 200}};
        for (int[] row : due) {
            Due.is("p " + row[0] + " of 200", x.usual(0, row[0]), row[1]);
        }
    }

    private static void lateByUsual() {
        Due.sentence(LATE, "An ENVELOPE that is OUT will be LATE, if the DAY it was SENT and USUAL of 900 are behind the SHIRE's END"
            + " (0 .. 400; 300 at first; its SHIRE NOW)");
        PostVotes x = House.under("1=1?g", 400);
        for (int i = 0; i < 10; i++) {
            House.come(x, 0, 0, i + 11);
        }
        x.send(0, 281, 0);
        x.send(0, 282, 0);
        x.send(0, 381, 0);
        x.send(0, 382, 0);
        x.send(0, 400, 0);
        Due.is("USUAL of 900", x.usual(0, 900), 19);
        Due.is("on the END, 300 at first", x.late(10), 0);
        Due.is("behind the END", x.late(11), 1);
        x.ends(0, 400);
        Due.is("on the END, 400", x.late(12), 0);
        Due.is("behind the END, 400", x.late(13), 1);
        Due.is("SENT on it", x.late(14), 1);
        x.ends(0, 0);
        Due.is("behind the END, 0", x.late(10), 1);
        x.ends(0, 300);
        x.ends(1, 301);
        x.move(0, 1, 400);
        Due.is("its SHIRE NOW", x.late(11), 0);
        x.move(0, 0, 400);
        Due.is("moved back", x.late(11), 1);
        Due.is("one that came", x.late(0), -1);
        // 900 thousandths of 109 are 98.1, and 899 thousandths but 97.991
        PostVotes z = House.under("1=1?g", 400);
        for (int i = 0; i < 109; i++) {
            House.come(z, 0, 0, i + 1);
        }
        z.send(0, 201, 0);
        z.send(0, 202, 0);
        Due.is("the 99th of 109: on the END", z.late(109), 0);
        Due.is("the 99th of 109: behind the END", z.late(110), 1);
        PostVotes y = House.under("1=1?g", 9);
        for (int i = 0; i < 5; i++) {
            House.come(y, 0, 9, 0);
        }
        y.send(0, 0, 0);
        y.ends(0, 0);
        Due.is("USUAL 0, SENT on the END, NOW behind it", y.late(5), 0);
    }

    private static void lateByNow() {
        Due.sentence(LATE, "- or, as USUAL is not told (fewer than SIZE come), if NOW is.");
        PostVotes x = House.under("1=1?g", 300);
        for (int i = 0; i < 4; i++) {
            House.come(x, 0, 0, 0);
        }
        x.send(0, 299, 0);
        x.send(0, 300, 0);
        Due.is("NOW is the END", x.late(4), 0);
        x.days(1);
        Due.is("NOW is behind the END", x.late(4), 1);
        Due.is("whenever it was SENT", x.late(5), 1);
        House.come(x, 0, 0, 0);
        Due.is("five come: by USUAL", x.late(4), 0);
        Due.is("five come: SENT on the END", x.late(5), 0);
        x.size(6);
        Due.is("SIZE 6: by NOW", x.late(5), 1);
    }

    private static void fortyHeaps() {
        Due.sentence(HEAPS, "HEAPS (40 at most):");
        PostVotes x = House.under("1=1?g", 0);
        x.size(1);
        for (int i = 0; i < 40; i++) {
            x.voter(0, 0, 0);
            House.come(x, i, 0, 0);
            Due.is("open " + i, x.open(0), i);
        }
        House.come(x, 40, 0, 0);
        Due.is("the 41st", x.open(0), -1);
        Due.is("40 HEAPS", x.count(6), 40);
        Due.is("of the last one", x.heap(39, 5), 1);
        Due.is("none behind it", x.heap(40, 5), -1);
        Due.is("in HEAPS", x.count(7), 40);
    }

    private static void whatIsTaken() {
        Due.sentence(HEAPS, "OPENING of a SHIRE takes all ENVELOPES that are COUNTED as known NOW, by VOTERS that are in the SHIRE on the DAY on which they come,"
            + " and lie in no HEAP so far;");
        PostVotes x = House.under("p=-1?g;1=1?v1", 5);
        x.size(1);
        x.voter(0, 0, 0);
        x.voter(0, 0, 0);
        x.voter(1, 0, 0);
        Due.law(x, 1, "1=1?g");
        House.come(x, 0, 0, 2);
        House.come(x, 0, 0, 1);
        House.come(x, 1, 0, 1);
        x.event(2, 7, 0, 0);
        x.send(2, 0, 0);
        House.come(x, 3, 0, 1);
        Due.is("open 0", x.open(0), 0);
        Due.is("just the FIRST of one VOTER", x.heap(0, 5), 1);
        Due.is("open 1", x.open(1), 1);
        Due.is("the one of SHIRE 1", x.heap(1, 5), 1);
        Due.is("all lie in HEAPS", x.open(0), -1);
        x.event(3, 2, 5, 0);
        x.event(2, 7, 5, 0);
        Due.is("one more came", x.open(0), 2);
        Due.is("just that one", x.heap(2, 5), 1);
        x.event(1, 7, 0, 0);
        Due.is("the next of the first VOTER is COUNTED", x.open(0), 3);
        Due.is("just that one, too", x.heap(3, 5), 1);
        Due.is("the older HEAP stays", x.heap(0, 5), 1);
        Due.is("one is WRONG", x.count(8), 1);
    }

    private static void onTheDayItComes() {
        Due.sentence(HEAPS, "by VOTERS that are in the SHIRE on the DAY on which they come,");
        PostVotes x = House.under("1=1?g", 9);
        Due.law(x, 1, "1=1?g");
        x.size(1);
        for (int i = 0; i < 3; i++) {
            x.voter(0, 0, 0);
            House.come(x, i, 0, i + 4);
            x.move(i, 1, 5);
        }
        Due.is("open 0", x.open(0), 0);
        Due.is("come ahead of the MOVE", x.heap(0, 5), 1);
        Due.is("open 1", x.open(1), 1);
        Due.is("come on its DAY or behind", x.heap(1, 5), 2);
    }

    private static void fewerThanSize() {
        Due.sentence(HEAPS, "refused, if they are fewer than SIZE.");
        for (int size : new int[] {1, 2, 5, 50}) {
            PostVotes x = new PostVotes();
            Due.law(x, 0, "1=1?g");
            x.size(size);
            for (int i = 0; i < size; i++) {
                if (i % 10 == 0 || i == size - 1) {
                    Due.is("open with " + i + " of " + size, x.open(0), -1);
                }
                x.voter(0, 0, 0);
                House.come(x, i, 0, 0);
            }
            Due.is("no HEAP so far", x.count(6), 0);
            Due.is("none in HEAPS", x.count(7), 0);
            Due.is("open with " + size, x.open(0), 0);
            Due.is("how many", x.heap(0, 5), size);
            Due.is("none left", x.open(0), -1);
            Due.is("one HEAP", x.count(6), 1);
        }
    }

    private static void whatIsTold() {
        Due.sentence(HEAPS, "What is told of a HEAP: how many, and of each CHOICE.");
        PostVotes x = House.under("1=1?g", 3);
        x.size(3);
        int[] choices = {0, 4, 4, 0, 4, 2};
        for (int i = 0; i < choices.length; i++) {
            x.voter(0, 0, 0);
            x.send(i, 0, choices[i]);
            x.event(i, 2, 0, 0);
        }
        x.open(0);
        int[] due = {2, 0, 1, 0, 3, 6};
        for (int what = 0; what < due.length; what++) {
            Due.is("heap(0, " + what + ")", x.heap(0, what), due[what]);
        }
    }

    private static void theseOfAStreet() {
        Due.sentence(HEAPS, "BY STREET: the sum of a CHOICE in all HEAPS of a SHIRE of VOTERS of one STREET: only if these ENVELOPES are SIZE or more,");
        PostVotes x = House.counted("1112222", 3);
        Due.is("no HEAP", x.street(0, 1, 0), -2);
        x.open(0);
        Due.is("three of SIZE 3", x.street(0, 1, 0), 3);
        Due.is("four", x.street(0, 2, 0), 4);
        Due.is("none of that CHOICE", x.street(0, 2, 4), 0);
        Due.is("none of that STREET", x.street(0, 0, 0), -2);
        PostVotes y = House.counted("112222", 3);
        y.open(0);
        Due.is("two of SIZE 3", y.street(0, 1, 0), -2);
        PostVotes z = House.counted("9", 1);
        z.open(0);
        Due.is("one of SIZE 1, no others", z.street(0, 9, 0), 1);
        Due.is("none of SIZE 1", z.street(0, 8, 0), -2);
    }

    private static void othersOfAStreet() {
        Due.sentence(HEAPS, "only if these ENVELOPES are SIZE or more, and all others in those HEAPS none or SIZE or more.");
        Object[][] rows = {{"1111", 4}, {"11112", -2}, {"111122", -2}, {"1111222", 4}, {"1111223", 4}, {"1111234", 4}, {"111123", -2}, {"11112222", 4}};
        for (Object[] row : rows) {
            PostVotes x = House.counted((String) row[0], 3);
            x.open(0);
            Due.is("STREET 1 of " + row[0], x.street(0, 1, 0), (Integer) row[1]);
        }
    }

    private static void allHeapsOfAShire() {
        Due.sentence(HEAPS, "the sum of a CHOICE in all HEAPS of a SHIRE of VOTERS of one STREET:");
        PostVotes x = House.counted("11112", 4);
        Due.law(x, 1, "1=1?g");
        x.open(0);
        Due.is("one other", x.street(0, 1, 0), -2);
        for (int i = 5; i < 9; i++) {
            x.voter(i < 8 ? 0 : 1, 2, 0);
            House.come(x, i, 0, 0);
        }
        Due.is("not in a HEAP so far", x.street(0, 1, 0), -2);
        x.voter(0, 1, 0);
        House.come(x, 9, 0, 0);
        Due.is("open again", x.open(0), 1);
        Due.is("the sum of two HEAPS", x.street(0, 1, 0), 5);
        Due.is("four others, in two HEAPS", x.street(0, 2, 0), 4);
        Due.is("none of another SHIRE", x.street(1, 2, 0), -2);
        x.event(0, 4, 0, 0);
        Due.is("WRONG ones stay in the sum", x.street(0, 1, 0), 5);
        x.move(1, 1, 0);
        Due.is("MOVED ones, too", x.street(0, 1, 0), 5);
    }

    private static void wrongOnes() {
        Due.sentence(HEAPS, "WRONG are ENVELOPES in HEAPS that are not COUNTED as known NOW.");
        PostVotes x = House.counted("111", 1);
        Due.is("no HEAP", x.count(8), 0);
        x.voter(0, 1, 0);
        x.send(3, 0, 0);
        x.open(0);
        Due.is("none; one is in no HEAP", x.count(8), 0);
        x.days(1);
        x.event(0, 4, 0, 0);
        Due.is("one is LOST", x.count(8), 1);
        x.event(1, 2, 1, 0);
        House.come(x, 1, 0, 0);
        Due.is("one is no longer FIRST", x.count(8), 2);
        x.move(2, 3, 0);
        Due.is("one WAITS in a SHIRE without LAW", x.count(8), 3);
        x.event(0, 5, 0, 0);
        Due.is("one is FOUND", x.count(8), 2);
        Due.is("in HEAPS as before", x.count(7), 3);
    }
}
