/** Promises 19 to 24: states, reasons, rules, first ones, doubles, and how many. */
public final class JudgedTest {
    public static void main(String[] args) {
        states();
        stateBounds();
        cures();
        cureByEnvelope();
        shireOfTheDay();
        laterLaws();
        firsts();
        goodAhead();
        doubles();
        many();
        Due.end("JudgedTest");
    }

    private static PostVotes withLaw(String text) {
        PostVotes x = new PostVotes();
        x.voter(0, 0, 0);
        Due.law(x, 0, text);
        return x;
    }

    private static void states() {
        PostVotes x = withLaw("c=1?g;c=2?w;c=3?v77;c=4?v0;c=5?v9999");
        x.days(9);
        for (int i = 0; i < 9; i++) {
            x.send(0, 0, 0);
            if (i >= 1 && i < 7) {
                x.event(i, 2, i, 0);
            }
        }
        x.event(7, 4, 1, 0);
        x.event(8, 3, 1, 0);
        int[] states = {0, 2, 3, 4, 4, 4, 4, 1, 0};
        int[] reasons = {-1, -1, -1, 77, 0, 9999, 9991, -1, -1};
        int[] rules = {-1, 0, 1, 2, 3, 4, -1, -1, -1};
        for (int i = 0; i < 9; i++) {
            Due.is("state of " + i, x.state(i, 9), states[i]);
            Due.is("reason of " + i, x.reason(i, 9), reasons[i]);
            Due.is("rule of " + i, x.ruled(i, 9), rules[i]);
        }
    }

    private static void stateBounds() {
        PostVotes x = withLaw("1=1?v5");
        x.days(3);
        x.send(0, 0, 0);
        x.event(0, 2, 0, 0);
        int[][] wrong = {{1, 3}, {-1, 3}, {0, 4}, {0, -1}, {0, 2}};
        for (int[] row : wrong) {
            Due.is("state", x.state(row[0], row[1]), -1);
            Due.is("reason", x.reason(row[0], row[1]), -1);
            Due.is("ruled", x.ruled(row[0], row[1]), -1);
        }
        Due.is("reason", x.reason(0, 3), 5);
        Due.is("ruled", x.ruled(0, 3), 0);
        x.event(0, 4, 0, 0);
        Due.is("rule of a lost one", x.ruled(0, 3), -1);
        Due.is("reason of a lost one", x.reason(0, 3), -1);
        PostVotes y = new PostVotes();
        y.voter(0, 0, 0);
        y.send(0, 0, 0);
        y.event(0, 2, 0, 0);
        Due.is("state without a law", y.state(0, 0), 3);
        Due.is("reason without a law", y.reason(0, 0), -1);
        Due.is("rule without a law", y.ruled(0, 0), -1);
    }

    private static void cures() {
        PostVotes x = withLaw("1=2?g;1=1?c8");
        x.days(5);
        x.send(0, 0, 0);
        x.send(0, 0, 0);
        x.event(0, 2, 1, 0);
        x.event(1, 2, 1, 0);
        x.days(3);
        Due.is("waits on D", x.state(0, 8), 3);
        Due.is("rule of c", x.ruled(0, 8), 1);
        Due.is("no reason yet", x.reason(0, 8), -1);
        x.event(0, 6, 8, 0);
        Due.is("CURE on D", x.state(0, 8), 2);
        Due.is("as known before", x.state(0, 7), 3);
        x.days(1);
        Due.is("too late", x.state(1, 9), 4);
        Due.is("its reason", x.reason(1, 9), 9990);
        Due.is("its rule", x.ruled(1, 9), 1);
        x.event(1, 6, 9, 0);
        Due.is("CURE behind D", x.state(1, 9), 4);
        x.event(1, 6, 7, 0);
        Due.is("CURE for an earlier day", x.state(1, 9), 2);
        Due.is("reason of a good one", x.reason(1, 9), -1);
        Due.is("CURED yet", x.state(0, 9), 2);
        PostVotes y = withLaw("1=1?c0-1");
        y.send(0, 0, 0);
        y.event(0, 2, 0, 0);
        Due.is("D below 0, no CURE", y.state(0, 0), 4);
        PostVotes z = withLaw("1=1?c8");
        z.days(6);
        z.send(0, 0, 0);
        z.event(0, 2, 6, 0);
        z.event(0, 6, 6, 0);
        z.days(4);
        Due.is("CURED long ago", z.state(0, 10), 2);
    }

    private static void cureByEnvelope() {
        PostVotes x = withLaw("1=1?c c+2*[n+1]");
        x.days(4);
        x.send(0, 0, 0);
        x.event(0, 2, 4, 0);
        x.days(2);
        Due.is("waits till c + 2", x.state(0, 6), 3);
        x.days(1);
        Due.is("no longer", x.state(0, 7), 4);
        PostVotes y = withLaw("t=5?g;1=1?c t");
        y.days(4);
        y.send(0, 0, 0);
        y.event(0, 2, 4, 0);
        Due.is("waits as long as it is asked for", y.state(0, 4), 3);
        y.days(2);
        Due.is("by the day of asking", y.state(0, 5), 2);
        Due.is("waits then", y.state(0, 6), 3);
    }

    private static void shireOfTheDay() {
        PostVotes x = withLaw("1=1?g");
        Due.law(x, 1, "1=1?v1");
        x.days(9);
        x.send(0, 1, 0);
        x.event(0, 2, 5, 0);
        x.move(0, 1, 6);
        Due.is("moved behind its coming", x.state(0, 9), 2);
        x.event(0, 2, 6, 0);
        Due.is("moved on its day", x.state(0, 9), 4);
        x.move(0, 2, 3);
        Due.is("the greater day counts", x.state(0, 9), 4);
        x.event(0, 2, 5, 0);
        Due.is("a shire without a law", x.state(0, 9), 3);
    }

    private static void laterLaws() {
        PostVotes x = withLaw("1=1?v1");
        x.days(5);
        x.send(0, 0, 0);
        x.event(0, 2, 3, 0);
        x.days(1);
        Due.feed(x, "1=1?v2");
        x.law(0, 3);
        Due.feed(x, "1=1?v3");
        x.law(0, 4);
        Due.is("by the law of its day", x.reason(0, 6), 2);
        Due.is("as known before", x.reason(0, 5), 1);
        x.event(0, 2, 4, 0);
        Due.is("by the next law", x.reason(0, 6), 3);
        x.event(0, 2, 2, 0);
        Due.is("by the law before", x.reason(0, 6), 1);
    }

    private static void firsts() {
        PostVotes x = withLaw("p=-1?g;1=1?v1");
        x.voter(0, 0, 0);
        x.days(9);
        Due.is("first of none", x.first(0, 9), -1);
        for (int i = 0; i < 4; i++) {
            x.send(0, 0, 0);
        }
        x.event(3, 2, 4, 0);
        x.event(2, 2, 3, 0);
        x.event(1, 2, 3, 0);
        x.event(0, 2, 2, 0);
        Due.is("first by days", x.first(0, 9), 0);
        x.event(0, 7, 2, 0);
        Due.is("first by number", x.first(0, 9), 1);
        x.event(1, 4, 2, 0);
        Due.is("first that comes", x.first(0, 9), 2);
        x.days(1);
        x.event(2, 7, 0, 0);
        Due.is("first good", x.first(0, 10), 3);
        Due.is("as known before", x.first(0, 9), 2);
        Due.is("as known long before", x.first(0, 8), -1);
        Due.is("first of another", x.first(1, 10), -1);
        Due.is("first voter 2", x.first(2, 10), -1);
        Due.is("first voter -1", x.first(-1, 10), -1);
        Due.is("first q 11", x.first(0, 11), -1);
        Due.is("first q -1", x.first(0, -1), -1);
    }

    private static void goodAhead() {
        PostVotes x = withLaw("n=0?g;n=1&s<9?g;n<3?v n;1=1?v9");
        Due.is("a letter is no reason", x.count(5), 0);
        Due.law(x, 0, "n=0?g;n=1&s<9?g;n=1?v1;n=2?v2;1=1?v9");
        x.days(40);
        for (int i = 0; i < 6; i++) {
            x.send(0, 0, 0);
            x.event(i, 2, 30 - i, 0);
        }
        x.read(3, 0);
        int[] ahead = {2, 2, 2, 1, 1, 0};
        int[] states = {4, 4, 4, 2, 4, 2};
        for (int i = 0; i < 6; i++) {
            Due.is("n of " + i, Due.letter(x, i, 'n', 40), ahead[i]);
            Due.is("state of " + i, x.state(i, 40), states[i]);
        }
        Due.is("reason behind two", x.reason(0, 40), 2);
        Due.is("reason behind one", x.reason(4, 40), 1);
        Due.is("first", x.first(0, 40), 5);
    }

    private static void doubles() {
        PostVotes x = withLaw("p=-1?g");
        x.voter(0, 0, 0);
        x.days(3);
        for (int i = 0; i < 5; i++) {
            x.send(i < 3 ? 0 : 1, 0, 0);
            x.event(i, 2, i == 4 ? 0 : 3, 0);
        }
        Due.is("two doubles", x.doubles(3), 2);
        x.days(1);
        x.event(4, 7, 0, 0);
        Due.is("one double", x.doubles(4), 1);
        Due.is("as known before", x.doubles(3), 2);
        Due.is("as known long before", x.doubles(2), 0);
        Due.is("doubles q -1", x.doubles(-1), -1);
        Due.is("doubles q 5", x.doubles(5), -1);
    }

    private static void many() {
        PostVotes x = withLaw("c=4?g;c=5?w;1=1?v1");
        Due.law(x, 1, "c=4?g;c=5?w;1=1?v1");
        x.days(8);
        for (int i = 0; i < 6; i++) {
            x.send(0, 2, 0);
        }
        x.event(0, 2, 4, 0);
        x.event(1, 2, 5, 0);
        x.event(2, 2, 6, 0);
        x.event(3, 4, 7, 0);
        x.days(1);
        x.move(0, 1, 5);
        int[][] due = {{2, 1, 1, 0, 0}, {0, 0, 0, 1, 1}};
        for (int shire = 0; shire < 2; shire++) {
            for (int state = 0; state < 5; state++) {
                Due.is("many(" + shire + ", " + state + ")", x.many(shire, state, 9), due[shire][state]);
            }
        }
        Due.is("as known before", x.many(0, 4, 8), 1);
        Due.is("as known long before", x.many(0, 0, 7), 0);
        x.move(0, 3, 2);
        Due.is("by the day it was sent", x.many(3, 0, 9), 2);
        Due.is("lost by the day it was sent", x.many(3, 1, 9), 1);
        Due.is("many shire -1", x.many(-1, 0, 0), -1);
        Due.is("many shire 4", x.many(4, 0, 0), -1);
        Due.is("many state -1", x.many(0, -1, 9), -1);
        Due.is("many state 5", x.many(0, 5, 9), -1);
        Due.is("many q -1", x.many(0, 0, -1), -1);
        Due.is("many q 10", x.many(0, 0, 10), -1);
    }
}
