import java.math.BigInteger;
import java.util.ArrayList;
import java.util.List;

/** Terms, part 3: doubles, harsh and soft ones, from how many on they are told, and what is checked again. */
final class HandBounds {
    private static final String PART = "Terms 3";

    private HandBounds() {
    }

    static void run() {
        doubles();
        doublesKnownNow();
        harshAndSoft();
        sizeAtFirst();
        sizes();
        sizesByStreets();
        howMany();
        rowByNumbers();
        goingRound();
        withoutSign();
        movingOn();
    }

    private static PostVotes oneEnvelope() {
        PostVotes x = new PostVotes();
        x.voter(0, 0, 0);
        x.send(0, 0, 0);
        return x;
    }

    private static void doubles() {
        Due.sentence(PART, "HABITS: a DOUBLE of a HAND are an ENVELOPE and another HAND, if both told of it (as known NOW).");
        PostVotes x = oneEnvelope();
        Due.is("none told", x.habit(0, -1, 0), 0);
        x.hand(0, 0, true);
        Due.is("it alone", x.habit(0, -1, 0), 0);
        Due.is("one that did not tell", x.habit(1, -1, 0), 0);
        for (int hand = 1; hand < 6; hand++) {
            x.hand(0, hand, true);
            Due.is("with " + hand + " others", x.habit(0, -1, 0), hand);
            Due.is("of the last one", x.habit(hand, -1, 0), hand);
        }
        x.hand(0, 5, false);
        Due.is("told again", x.habit(0, -1, 0), 5);
        x.send(0, 0, 0);
        x.hand(1, 0, true);
        Due.is("alone of another ENVELOPE", x.habit(0, -1, 0), 5);
        x.hand(1, 5, true);
        Due.is("two of another ENVELOPE", x.habit(0, -1, 0), 6);
    }

    private static void doublesKnownNow() {
        Due.sentence(PART, "if both told of it (as known NOW).");
        PostVotes x = oneEnvelope();
        x.size(1);
        x.hand(0, 0, true);
        x.days(400);
        x.hand(0, 1, false);
        Due.is("told on the first and the last DAY", x.habit(0, -1, 0), 1);
        Due.is("SOFT", x.habit(0, -1, 2), 1);
        x.hand(0, 0, false);
        Due.is("told again on the last DAY", x.habit(0, -1, 2), 0);
    }

    private static void harshAndSoft() {
        Due.sentence(PART, "HARSH of a HAND: of its DOUBLES those where it told no and the other one yes; SOFT: yes and no.");
        // one, other, HARSH and SOFT of the one
        int[][] rows = {{0, 0, 0, 0}, {0, 1, 1, 0}, {1, 0, 0, 1}, {1, 1, 0, 0}};
        for (int[] row : rows) {
            PostVotes x = oneEnvelope();
            x.size(1);
            x.hand(0, 2, row[0] == 1);
            x.hand(0, 4, row[1] == 1);
            Due.is("HARSH of " + row[0] + row[1], x.habit(2, -1, 1), row[2]);
            Due.is("SOFT of " + row[0] + row[1], x.habit(2, -1, 2), row[3]);
            Due.is("HARSH of the other", x.habit(4, -1, 1), row[3]);
            Due.is("SOFT of the other", x.habit(4, -1, 2), row[2]);
        }
        PostVotes x = oneEnvelope();
        x.size(1);
        for (int hand = 0; hand < 6; hand++) {
            x.hand(0, hand, hand > 0);
        }
        Due.is("all others unlike", x.habit(0, -1, 1), 5);
        Due.is("none SOFT", x.habit(0, -1, 2), 0);
        Due.is("one SOFT", x.habit(5, -1, 2), 1);
        Due.is("none HARSH", x.habit(5, -1, 1), 0);
    }

    private static void sizeAtFirst() {
        Due.sentence(PART, "They are told (also by STREETS) only of SIZE (1 .. 50; 5 at first) DOUBLES or more.");
        PostVotes x = oneEnvelope();
        for (int hand = 0; hand < 5; hand++) {
            x.hand(0, hand, hand > 0);
        }
        Due.is("HARSH of 4", x.habit(0, -1, 1), -2);
        Due.is("SOFT of 4", x.habit(0, -1, 2), -2);
        Due.is("how many", x.habit(0, -1, 0), 4);
        Due.is("harshest of none with 5", x.harshest(), -1);
        x.hand(0, 5, true);
        Due.is("HARSH of 5", x.habit(0, -1, 1), 5);
        Due.is("SOFT of 5", x.habit(0, -1, 2), 0);
        Due.is("harshest of those with 5", x.harshest(), 0);
    }

    private static void sizes() {
        Due.sentence(PART, "only of SIZE (1 .. 50; 5 at first) DOUBLES or more.");
        PostVotes x = new PostVotes();
        x.voter(0, 0, 0);
        Due.no("SIZE 0", x.size(0));
        Due.no("SIZE 51", x.size(51));
        Due.yes("SIZE 1", x.size(1));
        Due.is("HARSH of none", x.habit(0, -1, 1), -2);
        for (int i = 0; i < 25; i++) {
            x.send(0, 0, 0);
            x.hand(i, 0, false);
            x.hand(i, 1, true);
            if (i == 0) {
                Due.is("HARSH of 1", x.habit(0, -1, 1), 1);
            }
            if (i < 24) {
                x.hand(i, 2, true);
            }
        }
        Due.is("DOUBLES", x.habit(0, -1, 0), 49);
        Due.yes("SIZE 49", x.size(49));
        Due.is("HARSH of 49, SIZE 49", x.habit(0, -1, 1), 49);
        Due.yes("SIZE 50", x.size(50));
        Due.is("HARSH of 49, SIZE 50", x.habit(0, -1, 1), -2);
        Due.is("harshest of 49, SIZE 50", x.harshest(), -1);
        x.hand(24, 2, true);
        Due.is("HARSH of 50, SIZE 50", x.habit(0, -1, 1), 50);
        Due.is("harshest of 50, SIZE 50", x.harshest(), 0);
    }

    private static void sizesByStreets() {
        Due.sentence(PART, "They are told (also by STREETS) only of SIZE (1 .. 50; 5 at first) DOUBLES or more.");
        PostVotes x = new PostVotes();
        x.size(3);
        for (int i = 0; i < 5; i++) {
            x.voter(0, i < 2 ? 0 : 9, 0);
            x.send(i, 0, 0);
            x.hand(i, 0, true);
            x.hand(i, 1, false);
        }
        int[][] due = {{-1, 5, 0, 5}, {0, 2, -2, -2}, {9, 3, 0, 3}, {5, 0, -2, -2}};
        for (int[] row : due) {
            for (int what = 0; what < 3; what++) {
                Due.is("habit(0, " + row[0] + ", " + what + ")", x.habit(0, row[0], what), row[what + 1]);
            }
        }
        x.size(2);
        Due.is("two of two", x.habit(0, 0, 2), 2);
    }

    /** So many VOTERS, each with one that is COUNTED. */
    private static PostVotes counted(int many) {
        StringBuilder streets = new StringBuilder();
        for (int i = 0; i < many; i++) {
            streets.append(i % 10);
        }
        return House.counted(streets.toString(), 5);
    }

    private static void howMany() {
        Due.sentence(PART, "RECHECK: k (1 .. 50) of the ENVELOPES that are COUNTED as known NOW,");
        PostVotes x = counted(50);
        Due.is("k 0", x.recheck(0, 0, 1), -1);
        Due.is("k 1", x.recheck(1, 0, 1), lots(50, 1, 1).get(0));
        Due.is("k 50 of 50", x.recheck(50, 49, 1), lots(50, 50, 1).get(49));
        Due.is("k 51", x.recheck(51, 0, 1), -1);
        x.event(0, 4, 0, 0);
        Due.is("k 50 of 49", x.recheck(50, 49, 1), -1);
        Due.is("k 49 of 49", x.recheck(49, 48, 1) >= 1 ? 1 : 0, 1);
        PostVotes y = counted(60);
        Due.is("k 50 of 60", y.recheck(50, 49, 1), lots(60, 50, 1).get(49));
        Due.is("k 51 of 60", y.recheck(51, 0, 1), -1);
        Due.is("k 1 of none", new PostVotes().recheck(1, 0, 1), -1);
        Due.is("k 1 of one", counted(1).recheck(1, 0, 1), 0);
    }

    private static void rowByNumbers() {
        Due.sentence(PART, "in a row by numbers at first, by lots:");
        // the numbers are against the order of VOTERS and of the DAYS on which they come
        PostVotes x = new PostVotes();
        Due.law(x, 0, "1=1?g");
        x.days(9);
        for (int i = 0; i < 7; i++) {
            x.voter(0, 0, 0);
        }
        for (int i = 0; i < 7; i++) {
            House.come(x, 6 - i, 0, 8 - i);
        }
        for (long seed = 0; seed < 9; seed++) {
            List<Integer> due = lots(7, 7, seed);
            for (int i = 0; i < 7; i++) {
                Due.is("recheck(7, " + i + ", " + seed + ")", x.recheck(7, i, seed), due.get(i));
            }
        }
    }

    private static final BigInteger ROUND = BigInteger.ONE.shiftLeft(64);

    /** The next x, without a sign. */
    private static BigInteger next(BigInteger x) {
        return x.multiply(new BigInteger("6364136223846793005")).add(new BigInteger("1442695040888963407")).mod(ROUND);
    }

    /** The lots of so many ENVELOPES 0, 1 .., written another way. */
    private static List<Integer> lots(int many, int k, long seed) {
        List<Integer> left = new ArrayList<>();
        for (int i = 0; i < many; i++) {
            left.add(i);
        }
        List<Integer> drawn = new ArrayList<>();
        BigInteger x = BigInteger.valueOf(seed);
        for (int i = 0; i < k; i++) {
            x = next(x);
            drawn.add(left.remove(x.shiftRight(33).mod(BigInteger.valueOf(left.size())).intValue()));
        }
        return drawn;
    }

    private static void goingRound() {
        Due.sentence(PART, "x, at first seed, becomes x times 6364136223846793005 and 1442695040888963407 (64 bits, going round);");
        PostVotes x = counted(20);
        long[] seeds = {0, 1, 2, -1, -2, Long.MAX_VALUE, Long.MAX_VALUE - 1, Long.MIN_VALUE, Long.MIN_VALUE + 1, 1L << 32, -(1L << 32), 1L << 62,
            Integer.MAX_VALUE, Integer.MIN_VALUE, 6364136223846793005L, 1442695040888963407L, -1442695040888963407L};
        for (long seed : seeds) {
            List<Integer> due = lots(20, 20, seed);
            for (int i : new int[] {0, 1, 2, 9, 18, 19}) {
                Due.is("recheck(20, " + i + ", " + seed + ")", x.recheck(20, i, seed), due.get(i));
            }
        }
        Due.is("the first lot of seed 0", lots(20, 1, 0).get(0), 1442695040888963407L / (1L << 33) % 20);
    }

    private static void withoutSign() {
        Due.sentence(PART, "the one in the place (x shifted right by 33, without sign) modulo how many are left is drawn,");
        PostVotes x = counted(7);
        int high = 0;
        for (long seed = 0; seed < 60; seed++) {
            BigInteger lot = next(BigInteger.valueOf(seed));
            high += lot.testBit(63) ? 1 : 0;
            Due.is("recheck(1, 0, " + seed + ")", x.recheck(1, 0, seed), lot.shiftRight(33).mod(BigInteger.valueOf(7)).intValue());
        }
        Due.yes("some are above and some below the sign: " + high, high >= 10 && high <= 50);
    }

    private static void movingOn() {
        Due.sentence(PART, "modulo how many are left is drawn, those behind it move on.");
        PostVotes x = counted(6);
        for (long seed = 0; seed < 40; seed++) {
            int all = 0;
            for (int i = 0; i < 6; i++) {
                int drawn = x.recheck(6, i, seed);
                Due.is("recheck(6, " + i + ", " + seed + ")", drawn, lots(6, 6, seed).get(i));
                all |= 1 << drawn;
            }
            Due.is("each once, of seed " + seed, all, 63);
        }
        for (int k = 1; k <= 6; k++) {
            Due.is("the first lots are the same of " + k, x.recheck(k, k - 1, 77), lots(6, 6, 77).get(k - 1));
        }
    }
}
