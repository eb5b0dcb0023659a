import java.util.ArrayList;
import java.util.List;

/** Houses made ready for tests, and a look at all that a house answers. */
final class House {
    static final String LETTERS = "tomcxlfprbisyznek";

    private House() {
    }

    /** NOW is a day, and there is nobody. */
    static PostVotes on(int day) {
        PostVotes x = new PostVotes();
        x.days(day);
        return x;
    }

    /** One voter, in shire 0 that has a law, on a day. */
    static PostVotes under(String law, int day) {
        PostVotes x = new PostVotes();
        x.voter(0, 0, 0);
        Due.law(x, 0, law);
        x.days(day);
        return x;
    }

    /** An envelope to a voter that came by post: its number. */
    static int come(PostVotes x, int voter, int sent, int comes) {
        int envelope = x.send(voter, sent, 0);
        x.event(envelope, 2, comes, 0);
        return envelope;
    }

    /** Some voters of shire 0, each with an envelope that is counted; their streets are told as figures. */
    static PostVotes counted(String streets, int size) {
        PostVotes x = new PostVotes();
        Due.law(x, 0, "1=1?g");
        x.size(size);
        for (int i = 0; i < streets.length(); i++) {
            x.voter(0, streets.charAt(i) - '0', 0);
            come(x, i, 0, 0);
        }
        return x;
    }

    /** A house in which something of everything was told; NOW is 10, SIZE 2. */
    static PostVotes some() {
        PostVotes x = new PostVotes();
        x.voter(0, 0, 11_111_111);
        x.voter(0, 1, 22_222_222);
        x.voter(1, 0, 33_333_333);
        x.voter(2, 9, 0);
        Due.law(x, 0, "n>0?v5;s=9?c c+2;1=1?g");
        Due.law(x, 1, "i=1?g;1=1?w");
        x.size(2);
        x.press(60);
        x.wave(100, 0, 0);
        x.wave(30, 1, 1);
        x.stand(0, 0, 1440);
        x.stand(3, 100, 200);
        x.road(8, 0, 10);
        x.stops(3);
        x.ends(0, 9);
        x.days(4);
        x.send(0, 1, 0);
        x.send(0, 2, 1);
        x.send(1, 1, 2);
        x.send(1, 3, 3);
        x.send(2, 1, 4);
        x.event(0, 2, 3, 0);
        x.read(0, 11_111_112);
        x.event(1, 2, 4, 0);
        x.event(2, 3, 2, 5);
        x.empty(5, 3, 1);
        x.days(3);
        x.event(4, 3, 5, 6);
        x.empty(6, 6, 2);
        x.empty(5, 7, 0);
        x.event(3, 4, 5, 0);
        x.send(3, 6, 0);
        x.send(0, 7, 4);
        for (int kind : new int[] {1, 6, 7, 8}) {
            x.event(6, kind, kind - 1, 0);
        }
        x.hand(0, 0, true);
        x.hand(0, 1, false);
        x.hand(0, 2, true);
        x.hand(2, 0, false);
        x.hand(2, 1, true);
        x.read(2, 22_222_222);
        x.move(2, 3, 7);
        x.booth(1, 5);
        x.days(3);
        x.open(0);
        x.send(1, 9, 1);
        Due.feed(x, "s<9?g;1=1?v77");
        return x;
    }

    /** A look at all that a house like the one with something of everything answers; its tape is a law then. */
    static List<Long> look(PostVotes x) {
        List<Long> seen = shortLook(x);
        int now = x.count(0);
        for (int a = 0; a < 4; a++) {
            for (int day : new int[] {0, 5, 400}) {
                seen.add((long) x.shire(a, day, now));
                seen.add((long) x.shire(a, day, 0));
                seen.add((long) x.lawful(a, day, now));
            }
            seen.add((long) x.sealed(a, now));
            seen.add((long) x.first(a, now));
            seen.add((long) x.usual(a, 1000));
            for (int state = 0; state < 5; state++) {
                seen.add((long) x.many(a, state, now));
            }
        }
        for (int hand = 0; hand < 6; hand++) {
            for (int what = 0; what < 3; what++) {
                seen.add((long) x.habit(hand, what - 1, what));
            }
        }
        for (int envelope = 0; envelope < 7; envelope += 2) {
            for (int i = 0; i < LETTERS.length(); i++) {
                seen.add((long) Due.letter(x, envelope, LETTERS.charAt(i), now));
            }
        }
        for (int what = 0; what < 8; what++) {
            seen.add((long) x.heap(0, what));
            seen.add((long) x.street(what / 4, what % 2, what / 2));
            seen.add((long) x.late(what));
            seen.add((long) x.reason(what, now));
            seen.add((long) x.ruled(what, now));
        }
        seen.add((long) x.harshest());
        seen.add((long) x.recheck(2, 1, 7));
        seen.add((long) x.round(80));
        seen.add((long) x.route(80, 0));
        seen.add((long) x.law(0, 0));
        return states(x, seen);
    }

    /** As much of a look as can be had of a house that has few calls left. */
    static List<Long> shortLook(PostVotes x) {
        List<Long> seen = new ArrayList<>();
        for (int what = 0; what <= 11; what++) {
            seen.add((long) x.count(what));
        }
        seen.add((long) x.fault());
        seen.add((long) x.latest());
        seen.add((long) x.round(0));
        seen.add((long) x.doubles(x.count(0)));
        seen.add((long) x.printed(0));
        seen.add((long) x.printed(1));
        seen.add((long) x.heap(0, 5));
        seen.add((long) x.shire(0, x.count(0), x.count(0)));
        return states(x, seen);
    }

    private static List<Long> states(PostVotes x, List<Long> seen) {
        for (int envelope = 0; envelope < 8; envelope++) {
            seen.add((long) x.state(envelope, x.count(0)));
        }
        return seen;
    }
}
