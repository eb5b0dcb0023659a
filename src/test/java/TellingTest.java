/** Promises 1 to 12: a new object, days, and what is told of voters, envelopes, boxes and booths. */
public final class TellingTest {
    public static void main(String[] args) {
        newObject();
        days();
        voters();
        moves();
        moveBounds();
        sent();
        events();
        eventBoxes();
        emptyings();
        sealed();
        sealedOnTheLastDay();
        sealedBehindLoss();
        signsRead();
        hands();
        booths();
        Due.end("TellingTest");
    }

    private static void newObject() {
        PostVotes x = new PostVotes();
        for (int what = 0; what <= 11; what++) {
            Due.is("new: count(" + what + ")", x.count(what), 0);
        }
        Due.is("new: constant NONE", PostVotes.NONE, -1);
        Due.is("new: constant HIDDEN", PostVotes.HIDDEN, -2);
        Due.is("new: state", x.state(0, 0), -1);
        Due.is("new: first", x.first(0, 0), -1);
        Due.is("new: doubles", x.doubles(0), 0);
        Due.is("new: harshest", x.harshest(), -1);
        Due.is("new: latest", x.latest(), 0);
        Due.is("new: open", x.open(0), -1);
    }

    private static void days() {
        PostVotes x = new PostVotes();
        Due.is("days(-1)", x.days(-1), -1);
        Due.is("days(401)", x.days(401), -1);
        Due.is("days(0)", x.days(0), 0);
        Due.is("days(1)", x.days(1), 1);
        Due.is("days(399)", x.days(399), 400);
        Due.is("days(1) at 400", x.days(1), -1);
        Due.is("days(0) at 400", x.days(0), 400);
        Due.is("count(0)", x.count(0), 400);
        Due.is("days(MAX)", x.days(Integer.MAX_VALUE), -1);
        PostVotes y = new PostVotes();
        Due.is("days(400)", y.days(400), 400);
        PostVotes z = new PostVotes();
        z.days(300);
        Due.is("days(101) at 300", z.days(101), -1);
        Due.is("count(0) behind a refusal", z.count(0), 300);
    }

    private static void voters() {
        PostVotes x = new PostVotes();
        Due.is("voter shire -1", x.voter(-1, 0, 0), -1);
        Due.is("voter shire 4", x.voter(4, 0, 0), -1);
        Due.is("voter street -1", x.voter(0, -1, 0), -1);
        Due.is("voter street 10", x.voter(0, 10, 0), -1);
        Due.is("voter sign -1", x.voter(0, 0, -1), -1);
        Due.is("voter sign too great", x.voter(0, 0, 100_000_000), -1);
        Due.is("no voter", x.count(1), 0);
        Due.is("voter greatest", x.voter(3, 9, 99_999_999), 0);
        for (int i = 1; i < 60; i++) {
            Due.is("voter " + i, x.voter(i % 4, 0, 0), i);
        }
        Due.is("voter 61st", x.voter(0, 0, 0), -1);
        Due.is("60 voters", x.count(1), 60);
    }

    private static void moves() {
        PostVotes x = new PostVotes();
        x.voter(2, 0, 0);
        x.days(10);
        Due.is("shire as told at first", x.shire(0, 400, 10), 2);
        Due.is("shire as told at first, q ahead", x.shire(0, 0, 0), 2);
        Due.yes("move to 1 from 5", x.move(0, 1, 5));
        Due.is("shire on 4", x.shire(0, 4, 10), 2);
        Due.is("shire on 5", x.shire(0, 5, 10), 1);
        Due.is("shire on 5 as known in 9", x.shire(0, 5, 9), 2);
        x.days(2);
        Due.yes("move to 3 from 3", x.move(0, 3, 3));
        Due.is("shire on 3", x.shire(0, 3, 12), 3);
        Due.is("shire on 5, lesser day told later", x.shire(0, 5, 12), 1);
        Due.is("shire on 4 as known in 11", x.shire(0, 4, 11), 2);
        Due.yes("move to 0 from 5", x.move(0, 0, 5));
        Due.is("shire on 5, of one day the last", x.shire(0, 5, 12), 0);
        Due.is("shire on 400", x.shire(0, 400, 12), 0);
        Due.is("shire on 5 as known in 10", x.shire(0, 5, 10), 1);
        Due.is("shire day -1", x.shire(0, -1, 12), -1);
        Due.is("shire day 401", x.shire(0, 401, 12), -1);
        Due.is("shire q -1", x.shire(0, 0, -1), -1);
        Due.is("shire q 13", x.shire(0, 0, 13), -1);
        Due.is("shire voter 1", x.shire(1, 0, 0), -1);
        Due.is("shire voter -1", x.shire(-1, 0, 0), -1);
    }

    private static void moveBounds() {
        PostVotes x = new PostVotes();
        x.voter(0, 0, 0);
        x.days(3);
        Due.no("move voter 1", x.move(1, 0, 0));
        Due.no("move voter -1", x.move(-1, 0, 0));
        Due.no("move shire 4", x.move(0, 4, 0));
        Due.no("move shire -1", x.move(0, -1, 0));
        Due.no("move day 4", x.move(0, 1, 4));
        Due.no("move day -1", x.move(0, 1, -1));
        for (int i = 0; i < 60; i++) {
            Due.yes("move " + i, x.move(0, i % 4, 3));
        }
        Due.no("move 61st", x.move(0, 2, 3));
        Due.is("shire behind 60 moves", x.shire(0, 3, 3), 3);
    }

    private static void sent() {
        PostVotes x = new PostVotes();
        x.voter(0, 0, 0);
        x.days(2);
        Due.is("send voter 1", x.send(1, 0, 0), -1);
        Due.is("send voter -1", x.send(-1, 0, 0), -1);
        Due.is("send day -1", x.send(0, -1, 0), -1);
        Due.is("send day 3", x.send(0, 3, 0), -1);
        Due.is("send choice -1", x.send(0, 0, -1), -1);
        Due.is("send choice 5", x.send(0, 0, 5), -1);
        Due.is("none sent", x.count(2), 0);
        for (int i = 0; i < 200; i++) {
            Due.is("send " + i, x.send(0, i % 3, i % 5), i);
        }
        Due.is("send 201st", x.send(0, 0, 0), -1);
        Due.is("200 sent", x.count(2), 200);
        Due.is("letter e of 200", Due.letter(x, 199, 'e', 2), 200);
        Due.is("letter o", Due.letter(x, 199, 'o', 2), 1);
    }

    private static void events() {
        PostVotes x = new PostVotes();
        x.voter(0, 0, 0);
        x.days(5);
        x.send(0, 0, 0);
        Due.no("event envelope 1", x.event(1, 1, 0, 0));
        Due.no("event envelope -1", x.event(-1, 1, 0, 0));
        Due.no("event kind 0", x.event(0, 0, 0, 0));
        Due.no("event kind 9", x.event(0, 9, 0, 0));
        Due.no("event day -1", x.event(0, 1, -1, 0));
        Due.no("event day 6", x.event(0, 1, 6, 0));
        Due.is("no events", x.count(3), 0);
        String letters = "mc.lfxpr";
        for (int kind = 1; kind <= 8; kind++) {
            if (kind != 3 && kind != 4) {
                Due.yes("event kind " + kind, x.event(0, kind, kind % 4 + 2, 0));
                Due.is("letter of kind " + kind, Due.letter(x, 0, letters.charAt(kind - 1), 5), kind % 4 + 2);
            }
        }
        Due.yes("event LOST", x.event(0, 4, 3, 0));
        Due.is("letter l", Due.letter(x, 0, 'l', 5), 3);
        x.days(1);
        Due.yes("event MARK again", x.event(0, 1, 0, 0));
        Due.is("the one told last", Due.letter(x, 0, 'm', 6), 0);
        Due.is("as known before", Due.letter(x, 0, 'm', 5), 3);
        Due.is("all events", x.count(3), 8);
    }

    private static void eventBoxes() {
        PostVotes x = new PostVotes();
        x.voter(0, 0, 0);
        x.send(0, 0, 0);
        Due.no("DROP into -1", x.event(0, 3, 0, -1));
        Due.no("DROP into 8", x.event(0, 3, 0, 8));
        Due.no("MARK with a box", x.event(0, 1, 0, 1));
        Due.no("COME with a box", x.event(0, 2, 0, 7));
        Due.no("REPLACE with box -1", x.event(0, 8, 0, -1));
        Due.yes("DROP into 0", x.event(0, 3, 0, 0));
        Due.yes("DROP into 7", x.event(0, 3, 0, 7));
        x.empty(0, 0, 0);
        Due.is("not by the box of a DROP told before", Due.letter(x, 0, 'c', 0), -1);
        x.empty(7, 0, 1);
        Due.is("by the box told last", Due.letter(x, 0, 'i', 0), 1);
    }

    private static void emptyings() {
        PostVotes x = new PostVotes();
        x.days(4);
        Due.is("empty box -1", x.empty(-1, 0, 0), -1);
        Due.is("empty box 8", x.empty(8, 0, 0), -1);
        Due.is("empty day -1", x.empty(0, -1, 0), -1);
        Due.is("empty day 5", x.empty(0, 5, 0), -1);
        Due.is("empty many -1", x.empty(0, 0, -1), -1);
        Due.is("empty many 201", x.empty(0, 0, 201), -1);
        for (int i = 0; i < 200; i++) {
            Due.is("empty " + i, x.empty(i % 8, i % 5, i == 0 ? 200 : 0), i);
        }
        Due.is("empty 201st", x.empty(0, 0, 0), -1);
        Due.is("200 emptyings", x.count(4), 200);
        Due.is("sealed wrong with 200", x.sealed(0, 4), 1);
        Due.is("sealed right with 0", x.sealed(199, 4), 0);
    }

    private static void sealed() {
        PostVotes x = new PostVotes();
        x.voter(0, 0, 0);
        x.days(10);
        for (int i = 0; i < 3; i++) {
            x.send(0, 0, 0);
            x.event(i, 3, 4, 1);
        }
        x.empty(1, 3, 0);
        x.empty(1, 6, 0);
        x.empty(1, 5, 3);
        x.empty(1, 5, 0);
        x.empty(2, 4, 0);
        Due.is("ahead of the DROP", x.sealed(0, 10), 0);
        Due.is("behind another one", x.sealed(1, 10), 0);
        Due.is("first by days", x.sealed(2, 10), 0);
        Due.is("of one day the one told first", x.sealed(3, 10), 0);
        Due.is("another box", x.sealed(4, 10), 0);
        Due.is("letter c by box", Due.letter(x, 0, 'c', 10), 5);
        x.days(1);
        x.event(2, 2, 5, 0);
        Due.is("COME of the same day takes one", x.sealed(2, 11), 1);
        Due.is("not by its box then", Due.letter(x, 2, 'i', 11), 0);
        Due.is("as known before", x.sealed(2, 10), 0);
        x.event(2, 2, 6, 0);
        Due.is("COME behind does not", x.sealed(2, 11), 0);
        Due.is("by its box then", Due.letter(x, 2, 'i', 11), 1);
        x.empty(1, 4, 3);
        Due.is("an earlier one told later", x.sealed(5, 11), 0);
        Due.is("takes all of the other", x.sealed(2, 11), 1);
        Due.is("sealed told later than q", x.sealed(5, 10), -1);
        Due.is("sealed 6", x.sealed(6, 11), -1);
        Due.is("sealed -1", x.sealed(-1, 11), -1);
        Due.is("sealed q 12", x.sealed(0, 12), -1);
        Due.is("sealed q -1", x.sealed(0, -1), -1);
    }

    private static void sealedOnTheLastDay() {
        PostVotes x = new PostVotes();
        x.voter(0, 0, 0);
        x.days(400);
        x.send(0, 0, 0);
        x.event(0, 3, 400, 5);
        x.empty(5, 399, 1);
        Due.is("not come", x.state(0, 400), 0);
        x.empty(5, 400, 1);
        Due.is("come on the last day", Due.letter(x, 0, 'c', 400), 400);
        Due.is("sealed right", x.sealed(1, 400), 0);
        Due.is("sealed wrong", x.sealed(0, 400), 1);
    }

    private static void sealedBehindLoss() {
        PostVotes x = new PostVotes();
        x.voter(0, 0, 0);
        x.days(9);
        x.send(0, 0, 0);
        x.event(0, 3, 2, 0);
        x.empty(0, 2, 1);
        Due.is("on the DROP's day", x.sealed(0, 9), 0);
        x.event(0, 4, 3, 0);
        Due.is("LOST does not come", x.sealed(0, 9), 1);
        Due.is("LOST: not by its box", Due.letter(x, 0, 'i', 9), 0);
        Due.is("state LOST", x.state(0, 9), 1);
        x.event(0, 5, 3, 0);
        Due.is("FOUND the same day: by that emptying yet", x.sealed(0, 9), 0);
        Due.is("FOUND: on the greater day", Due.letter(x, 0, 'c', 9), 3);
        Due.is("FOUND: by its box yet", Due.letter(x, 0, 'i', 9), 1);
        x.event(0, 5, 2, 0);
        Due.is("FOUND ahead of LOST", x.state(0, 9), 1);
        x.event(0, 4, 1, 0);
        x.event(0, 5, 1, 0);
        Due.is("FOUND ahead of the emptying", Due.letter(x, 0, 'c', 9), 2);
        x.send(0, 0, 0);
        x.event(1, 4, 1, 0);
        x.event(1, 5, 1, 0);
        Due.is("LOST and FOUND and nothing else", x.state(1, 9), 1);
        x.send(0, 0, 0);
        x.event(2, 5, 1, 0);
        Due.is("FOUND alone", x.state(2, 9), 0);
        x.event(2, 2, 4, 0);
        x.event(2, 5, 8, 0);
        Due.is("FOUND without LOST moves nothing", Due.letter(x, 2, 'c', 9), 4);
    }

    private static void signsRead() {
        PostVotes x = new PostVotes();
        x.voter(0, 0, 12_345_678);
        x.days(1);
        x.send(0, 0, 0);
        Due.no("read envelope 1", x.read(1, 0));
        Due.no("read envelope -1", x.read(-1, 0));
        Due.no("read sign -1", x.read(0, -1));
        Due.no("read sign too great", x.read(0, 100_000_000));
        Due.is("none read", Due.letter(x, 0, 's', 1), 9);
        Due.yes("read", x.read(0, 12_345_678));
        Due.is("alike", Due.letter(x, 0, 's', 1), 0);
        x.days(1);
        Due.yes("read greatest", x.read(0, 99_999_999));
        Due.is("all unlike", Due.letter(x, 0, 's', 2), 8);
        Due.is("as known before", Due.letter(x, 0, 's', 1), 0);
        Due.yes("read first figure unlike", x.read(0, 2_345_678));
        Due.is("one unlike", Due.letter(x, 0, 's', 2), 1);
        for (int i = 3; i < 400; i++) {
            Due.yes("read " + i, x.read(0, 87_654_321));
        }
        Due.is("read 400 times", Due.letter(x, 0, 's', 2), 8);
        Due.no("read 401st", x.read(0, 12_345_678));
        Due.is("read 401st leaves it", Due.letter(x, 0, 's', 2), 8);
    }

    private static void hands() {
        PostVotes x = new PostVotes();
        x.voter(0, 0, 0);
        x.send(0, 0, 0);
        Due.no("hand envelope 1", x.hand(1, 0, true));
        Due.no("hand envelope -1", x.hand(-1, 0, true));
        Due.no("hand -1", x.hand(0, -1, true));
        Due.no("hand 6", x.hand(0, 6, true));
        Due.is("y of none", Due.letter(x, 0, 'y', 0), 0);
        Due.is("z of none", Due.letter(x, 0, 'z', 0), 0);
        for (int hand = 0; hand < 6; hand++) {
            Due.yes("hand " + hand, x.hand(0, hand, hand < 2));
        }
        Due.is("y", Due.letter(x, 0, 'y', 0), 2);
        Due.is("z", Due.letter(x, 0, 'z', 0), 4);
        x.days(1);
        Due.yes("hand 5 again", x.hand(0, 5, true));
        Due.is("y told last", Due.letter(x, 0, 'y', 1), 3);
        Due.is("z told last", Due.letter(x, 0, 'z', 1), 3);
        Due.is("y as known before", Due.letter(x, 0, 'y', 0), 2);
    }

    private static void booths() {
        PostVotes x = new PostVotes();
        x.voter(0, 0, 0);
        x.voter(0, 0, 0);
        x.days(7);
        x.send(0, 0, 0);
        Due.no("booth voter 2", x.booth(2, 0));
        Due.no("booth voter -1", x.booth(-1, 0));
        Due.no("booth day -1", x.booth(0, -1));
        Due.no("booth day 8", x.booth(0, 8));
        Due.yes("booth of another", x.booth(1, 7));
        Due.is("b of none", Due.letter(x, 0, 'b', 7), -1);
        Due.yes("booth", x.booth(0, 7));
        Due.is("b", Due.letter(x, 0, 'b', 7), 7);
        x.days(1);
        Due.yes("booth again", x.booth(0, 2));
        Due.is("b told last", Due.letter(x, 0, 'b', 8), 2);
        Due.is("b as known before", Due.letter(x, 0, 'b', 7), 7);
        PostVotes y = new PostVotes();
        y.voter(0, 0, 0);
        y.send(0, 0, 0);
        y.days(1);
        y.booth(0, 0);
        Due.is("b now", Due.letter(y, 0, 'b', 1), 0);
        Due.is("b not known before", Due.letter(y, 0, 'b', 0), -1);
        for (int i = 3; i < 100; i++) {
            Due.yes("booth " + i, x.booth(0, 3));
        }
        Due.no("booth 101st", x.booth(0, 4));
        Due.is("b behind 100", Due.letter(x, 0, 'b', 8), 3);
    }
}
