import java.util.List;

/** A refused call is tried on one of two houses that are alike, and all that both answer then has to be alike. */
final class Refused {
    /** Numbers that are no number of anything, whatever its bounds. */
    static final int[] FAR = {Integer.MIN_VALUE, Integer.MIN_VALUE + 1, -65536, -3, Integer.MAX_VALUE - 1, Integer.MAX_VALUE};

    interface Call {
        long on(PostVotes x);
    }

    interface Told {
        boolean on(PostVotes x);
    }

    interface Maker {
        PostVotes make();
    }

    interface CallWith {
        long on(PostVotes x, int n);
    }

    private Refused() {
    }

    /** Answers NONE, and leaves a house in which something of everything was told as it was. */
    static void none(String call, Call refused) {
        alike(call, House::some, refused, -1, false);
    }

    /** Answers false, and leaves all as it was. */
    static void no(String call, Told refused) {
        alike(call, House::some, x -> refused.on(x) ? 1 : 0, 0, false);
    }

    /** Answers a number, and leaves all as it was. */
    static void as(String call, long answer, Call refused) {
        alike(call, House::some, refused, answer, false);
    }

    /** Refused for each of some numbers and for those that are none of anything. */
    static void each(String call, long answer, int[] numbers, CallWith refused) {
        for (int[] some : new int[][] {numbers, FAR}) {
            for (int n : some) {
                alike(call.replace("#", "" + n), House::some, x -> refused.on(x, n), answer, false);
            }
        }
    }

    /** Refused by a house that has had many calls already. */
    static void full(String call, Maker maker, long answer, Call refused) {
        alike(call, maker, refused, answer, true);
    }

    private static void alike(String call, Maker maker, Call refused, long answer, boolean few) {
        PostVotes tried = maker.make();
        PostVotes other = maker.make();
        Due.is(call, refused.on(tried), answer);
        List<Long> one = few ? House.shortLook(tried) : House.look(tried);
        List<Long> two = few ? House.shortLook(other) : House.look(other);
        for (int i = 0; i < one.size(); i++) {
            Due.is("look " + i + " behind " + call, one.get(i), two.get(i));
        }
    }
}
