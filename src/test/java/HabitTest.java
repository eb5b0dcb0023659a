/** Promises 25 to 28: habits of hands, the harshest, the size, and what is checked again. */
public final class HabitTest {
    public static void main(String[] args) {
        habits();
        habitBounds();
        harshest();
        sizes();
        recheck();
        recheckKnowsNow();
        Due.end("HabitTest");
    }

    /** Hands tell of envelope after envelope: y yes, n no, . nothing. */
    private static PostVotes told(String... rows) {
        PostVotes x = new PostVotes();
        for (int i = 0; i < rows.length; i++) {
            x.voter(0, i % 10, 0);
            x.send(i, 0, 0);
            for (int hand = 0; hand < rows[i].length(); hand++) {
                if (rows[i].charAt(hand) != '.') {
                    x.hand(i, hand, rows[i].charAt(hand) == 'y');
                }
            }
        }
        return x;
    }

    private static void habits() {
        PostVotes x = told("nyyn..", "yn....", "n.....", ".yn...", "nnyyyy");
        x.size(1);
        int[] all = {9, 10, 9, 8, 5, 5};
        int[] harsh = {6, 5, 1, 2, 0, 0};
        int[] soft = {1, 3, 4, 2, 2, 2};
        // hand 0: 3 of row 0, 1 of row 1, 5 of row 4; hand 1: 3, 1, 1 and 5, and so on
        for (int hand = 0; hand < 6; hand++) {
            Due.is("doubles of " + hand, x.habit(hand, -1, 0), all[hand]);
            Due.is("harsh of " + hand, x.habit(hand, -1, 1), harsh[hand]);
            Due.is("soft of " + hand, x.habit(hand, -1, 2), soft[hand]);
        }
        Due.is("street 0 of hand 0", x.habit(0, 0, 0), 3);
        Due.is("street 0 harsh", x.habit(0, 0, 1), 2);
        Due.is("street 0 soft", x.habit(0, 0, 2), 0);
        Due.is("street 3 of hand 1", x.habit(1, 3, 0), 1);
        Due.is("street 3 soft", x.habit(1, 3, 2), 1);
        x.hand(0, 0, true);
        Due.is("told last", x.habit(0, 0, 1), 0);
        Due.is("soft now", x.habit(0, 0, 2), 1);
        x.days(5);
        x.hand(2, 5, true);
        Due.is("told later", x.habit(0, -1, 0), 10);
        Due.is("harsh told later", x.habit(0, -1, 1), 5);
    }

    private static void habitBounds() {
        PostVotes x = told("ny", "yn", "yy", "nn", "ny");
        Due.is("five doubles", x.habit(0, -1, 0), 5);
        Due.is("harsh of five", x.habit(0, -1, 1), 2);
        Due.is("soft of five", x.habit(0, -1, 2), 1);
        x.size(6);
        Due.is("doubles of too few", x.habit(0, -1, 0), 5);
        Due.is("harsh of too few", x.habit(0, -1, 1), -2);
        Due.is("soft of too few", x.habit(0, -1, 2), -2);
        Due.is("of a street without one", x.habit(0, 9, 0), 0);
        Due.is("hidden there", x.habit(0, 9, 2), -2);
        Due.is("habit hand -1", x.habit(-1, -1, 0), -1);
        Due.is("habit hand 6", x.habit(6, -1, 0), -1);
        Due.is("habit street -2", x.habit(0, -2, 0), -1);
        Due.is("habit street 10", x.habit(0, 10, 0), -1);
        Due.is("habit what -1", x.habit(0, -1, -1), -1);
        Due.is("habit what 3", x.habit(0, -1, 3), -1);
    }

    private static void harshest() {
        PostVotes x = told("ny", "yn", "yy", "nn", ".y");
        Due.is("too few", x.harshest(), -1);
        x.size(4);
        Due.is("of several the lowest", x.harshest(), 0);
        x.hand(4, 0, true);
        x.hand(4, 1, false);
        Due.is("the greater part", x.harshest(), 1);
        // hand 0 has 1 harsh of 7, hand 1 has 3 of 7, hand 2 has 1 of 2
        PostVotes y = told("ny....", "yn....", "yy....", "nn....", "yn....", "ynn...");
        y.size(3);
        Due.is("of those with enough", y.harshest(), 1);
        y.size(2);
        Due.is("the part, not the number", y.harshest(), 2);
        y.hand(1, 2, false);
        Due.is("doubles of hand 2", y.habit(2, -1, 0), 4);
        Due.is("2 of 4 by 3 of 8", y.harshest(), 2);
        y.size(5);
        Due.is("4 are not enough", y.harshest(), 1);
        PostVotes w = told("ny", "yy", ".yn", ".yy");
        w.size(2);
        // 1 of 2 by hand 0, none of 4 by hand 1, 1 of 2 by hand 2
        Due.is("alike: the lowest", w.harshest(), 0);
        w.days(3);
        w.hand(3, 2, false);
        Due.is("2 of 2, told later", w.harshest(), 2);
        PostVotes v = told("ny", "ny", "yy", "yy", "yy", "..ny", "..ny", "..ny", "..yy", "..yy", "..yy", "..yy", "..yy");
        Due.is("2 of 5 by 3 of 8", v.harshest(), 0);
        PostVotes z = told("yyyyyy");
        z.size(5);
        Due.is("none harsh: the lowest", z.harshest(), 0);
        z.size(6);
        Due.is("none with enough", z.harshest(), -1);
    }

    private static void sizes() {
        PostVotes x = new PostVotes();
        Due.no("size(0)", x.size(0));
        Due.no("size(-1)", x.size(-1));
        Due.no("size(51)", x.size(51));
        Due.yes("size(50)", x.size(50));
        Due.yes("size(1)", x.size(1));
        Due.law(x, 0, "1=1?g");
        x.voter(0, 0, 0);
        x.send(0, 0, 0);
        x.event(0, 2, 0, 0);
        Due.is("open", x.open(0), 0);
        Due.no("size behind a heap", x.size(1));
        Due.no("size(2) behind a heap", x.size(2));
    }

    /** The lots as the document draws them, written another way. */
    private static int[] lots(java.util.List<Integer> counted, int k, long seed) {
        java.util.List<Integer> left = new java.util.ArrayList<>(counted);
        int[] drawn = new int[k];
        java.math.BigInteger x = java.math.BigInteger.valueOf(seed);
        java.math.BigInteger round = java.math.BigInteger.ONE.shiftLeft(64);
        for (int i = 0; i < k; i++) {
            x = x.multiply(new java.math.BigInteger("6364136223846793005")).add(new java.math.BigInteger("1442695040888963407")).mod(round);
            int place = x.shiftRight(33).mod(java.math.BigInteger.valueOf(left.size())).intValue();
            drawn[i] = left.remove(place);
        }
        return drawn;
    }

    private static void recheck() {
        PostVotes x = new PostVotes();
        Due.law(x, 0, "k<9?g;1=1?v1");
        java.util.List<Integer> counted = new java.util.ArrayList<>();
        for (int i = 0; i < 60; i++) {
            x.voter(0, i % 10, 0);
            x.send(i, 0, 0);
            x.event(i, 2, 0, 0);
            if (i % 10 < 9) {
                counted.add(i);
            }
        }
        Due.is("counted", x.count(9), 54);
        for (long seed : new long[] {0, 1, -1, 5, Long.MIN_VALUE, Long.MAX_VALUE, 0x123456789ABCDEFL}) {
            int[] due = lots(counted, 50, seed);
            for (int i = 0; i < 50; i += 7) {
                Due.is("recheck(50, " + i + ", " + seed + ")", x.recheck(50, i, seed), due[i]);
            }
            Due.is("recheck(8, 7, " + seed + ")", x.recheck(8, 7, seed), due[7]);
        }
        Due.is("recheck(1, 0)", x.recheck(1, 0, 77), lots(counted, 1, 77)[0]);
        Due.is("recheck k 0", x.recheck(0, 0, 1), -1);
        Due.is("recheck k 51", x.recheck(51, 0, 1), -1);
        Due.is("recheck i -1", x.recheck(5, -1, 1), -1);
        Due.is("recheck i = k", x.recheck(5, 5, 1), -1);
    }

    private static void recheckKnowsNow() {
        PostVotes x = new PostVotes();
        Due.law(x, 0, "p=-1?g");
        for (int i = 0; i < 3; i++) {
            x.voter(0, 0, 0);
            x.send(i, 0, 0);
            x.event(i, 2, 0, 0);
        }
        x.send(0, 0, 0);
        x.event(3, 2, 0, 0);
        Due.is("fewer than k", x.recheck(4, 0, 1), -1);
        int sum = x.recheck(3, 0, 1) + x.recheck(3, 1, 1) + x.recheck(3, 2, 1);
        Due.is("each once", sum, 0 + 1 + 2);
        x.event(0, 7, 0, 0);
        sum = x.recheck(3, 0, 1) + x.recheck(3, 1, 1) + x.recheck(3, 2, 1);
        Due.is("the next one counts", sum, 1 + 2 + 3);
        x.event(1, 7, 0, 0);
        Due.is("fewer now", x.recheck(3, 0, 1), -1);
        x.days(1);
        x.event(2, 7, 0, 0);
        Due.is("the only one now", x.recheck(1, 0, 1), 3);
    }
}
