import java.util.ArrayList;
import java.util.Arrays;
import java.util.NoSuchElementException;

/** A house that leads votes by post. The words in capitals are those of the document. */
public final class PostVotes {
    public static final int NONE = -1;
    public static final int HIDDEN = -2;

    private static final int LAST_DAY = 400;
    private static final int LAST_MINUTE = 1440;
    private static final int LAST_SIGN = 99_999_999;
    private static final int SHIRES = 4;
    private static final int STREETS = 10;
    private static final int CHOICES = 5;
    private static final int BOXES = 8;
    private static final int HANDS = 6;
    private static final int TAPE_BYTES = 200;

    private static final int MOST_VOTERS = 60;
    private static final int MOST_MOVES = 60;
    private static final int MOST_ENVELOPES = 200;
    private static final int MOST_EVENTS = 600;
    private static final int MOST_EMPTYINGS = 200;
    private static final int MOST_READ = 400;
    private static final int MOST_HANDED = 600;
    private static final int MOST_BOOTHS = 100;
    private static final int MOST_LAWS = 30;
    private static final int MOST_WAVES = 12;
    private static final int MOST_HEAPS = 40;
    private static final int MOST_SIZE = 50;

    // the kinds of what is told of an envelope: 1 to 8 are the document's events
    private static final int MARK = 1;
    private static final int COME = 2;
    private static final int DROP = 3;
    private static final int LOSS = 4;
    private static final int FOUND = 5;
    private static final int CURE = 6;
    private static final int SPOIL = 7;
    private static final int REPLACE = 8;
    private static final int SIGN_READ = 9;
    private static final int HANDED = 10;
    private static final int KINDS = HANDED + HANDS;
    // the kinds of what is told of a voter
    private static final int MOVE = 1;
    private static final int BOOTH = 2;

    // the states of an envelope
    private static final int OUT = 0;
    private static final int LOST = 1;
    private static final int GOOD = 2;
    private static final int WAITS = 3;
    private static final int VOID = 4;

    private static final int CURE_TOO_LATE = 9990;
    private static final int NO_RULE = 9991;
    private static final String LETTERS = "tomcxlfprbisyznek";

    private int now;
    private int size = 5;
    private final Post post = new Post();
    private final Tape tape = new Tape();
    private final Press printer = new Press();
    private final Van van = new Van();
    private final ArrayList<Heap> heaps = new ArrayList<>();
    private final int[] ends = new int[SHIRES];
    private final int[] took = new int[LAST_DAY + 1];
    private final int[] row = new int[MOST_ENVELOPES];

    public PostVotes() {
        Arrays.fill(ends, 300);
    }

    public int days(int n) {
        if (!isWithin(n, 0, LAST_DAY) || now + n > LAST_DAY) {
            return NONE;
        }
        now += n;
        return now;
    }

    // ---- voters, envelopes and what is told of them

    public int voter(int shire, int street, int sign) {
        boolean fits = isShire(shire) && isStreet(street) && isSign(sign);
        if (!fits || post.voters.size() >= MOST_VOTERS) {
            return NONE;
        }
        post.voters.add(new Voter(shire, street, sign));
        return post.voters.size() - 1;
    }

    public boolean move(int voter, int shire, int day) {
        Voter mover = post.voterAt(voter);
        if (mover == null || !isShire(shire) || !isUpToNow(day) || post.moves >= MOST_MOVES) {
            return false;
        }
        post.moves++;
        mover.log.add(new Told(MOVE, day, shire, now));
        return true;
    }

    public int shire(int voter, int day, int q) {
        Voter asked = post.voterAt(voter);
        if (asked == null || !isDay(day) || !isUpToNow(q)) {
            return NONE;
        }
        return asked.shireOn(day, q);
    }

    public int send(int voter, int day, int choice) {
        Voter owner = post.voterAt(voter);
        if (owner == null || !isUpToNow(day) || !isChoice(choice) || post.envelopes.size() >= MOST_ENVELOPES) {
            return NONE;
        }
        int number = post.envelopes.size();
        Envelope sent = new Envelope(number, owner, day, choice, now);
        post.envelopes.add(sent);
        owner.envelopes.add(sent);
        return number;
    }

    public boolean event(int envelope, int kind, int day, int box) {
        Envelope one = post.envelopeAt(envelope);
        boolean fits = isWithin(kind, MARK, REPLACE) && (kind == DROP ? isBox(box) : box == 0);
        if (one == null || !fits || !isUpToNow(day) || post.events >= MOST_EVENTS) {
            return false;
        }
        post.events++;
        one.log.add(new Told(kind, day, box, now));
        return true;
    }

    public int empty(int box, int day, int many) {
        boolean fits = isBox(box) && isUpToNow(day) && isWithin(many, 0, MOST_ENVELOPES);
        if (!fits || post.emptyings.size() >= MOST_EMPTYINGS) {
            return NONE;
        }
        post.emptyings.add(new Told(box, day, many, now));
        return post.emptyings.size() - 1;
    }

    public int sealed(int emptying, int q) {
        if (!isUpToNow(q) || !isWithin(emptying, 0, post.emptyings.size() - 1)) {
            return NONE;
        }
        Told asked = post.emptyings.get(emptying);
        if (asked.told > q) {
            return NONE;
        }
        return asked.value == post.manyBy(emptying, q) ? 0 : 1;
    }

    public boolean read(int envelope, int sign) {
        Envelope one = post.envelopeAt(envelope);
        if (one == null || !isSign(sign) || post.signsRead >= MOST_READ) {
            return false;
        }
        post.signsRead++;
        one.log.add(new Told(SIGN_READ, now, sign, now));
        return true;
    }

    public boolean hand(int envelope, int hand, boolean yes) {
        Envelope one = post.envelopeAt(envelope);
        if (one == null || !isHand(hand) || post.handed >= MOST_HANDED) {
            return false;
        }
        post.handed++;
        one.log.add(new Told(HANDED + hand, now, yes ? 1 : 0, now));
        return true;
    }

    public boolean booth(int voter, int day) {
        Voter there = post.voterAt(voter);
        if (there == null || !isUpToNow(day) || post.booths >= MOST_BOOTHS) {
            return false;
        }
        post.booths++;
        there.log.add(new Told(BOOTH, day, 0, now));
        return true;
    }

    // ---- the tape and the laws

    public int feed(int a, int b, int c, int d, int e) {
        int fresh = signsIn(a) + signsIn(b) + signsIn(c) + signsIn(d) + signsIn(e);
        if (tape.length + fresh > TAPE_BYTES) {
            return NONE;
        }
        tape.take4(a);
        tape.take4(b);
        tape.take4(c);
        tape.take4(d);
        tape.take4(e);
        return tape.length;
    }

    public boolean end(int n) {
        if (!isWithin(n, 0, tape.length)) {
            return false;
        }
        tape.length = n;
        return true;
    }

    public int fault() {
        return tape.firstFault();
    }

    public int law(int shire, int day) {
        ArrayList<Law> laws = post.judge.laws;
        if (!isShire(shire) || !isDay(day) || laws.size() >= MOST_LAWS || tape.firstFault() != NONE) {
            return NONE;
        }
        laws.add(new Law(shire, day, now, tape));
        tape.length = 0;
        return laws.size() - 1;
    }

    public int lawful(int shire, int day, int q) {
        if (!isShire(shire) || !isDay(day) || !isUpToNow(q)) {
            return NONE;
        }
        return post.judge.inForce(shire, day, q);
    }

    // ---- envelopes judged as known in q

    public int letter(int envelope, int letter, int q) throws NoSuchElementException {
        Envelope one = judged(envelope, q);
        if (one == null || !isLetter(letter)) {
            throw new NoSuchElementException("no such envelope, letter or day");
        }
        return one.numberOf(letter, q);
    }

    public int state(int envelope, int q) {
        Envelope one = judged(envelope, q);
        return one == null ? NONE : one.state;
    }

    public int reason(int envelope, int q) {
        Envelope one = judged(envelope, q);
        return one == null ? NONE : one.reason;
    }

    public int ruled(int envelope, int q) {
        Envelope one = judged(envelope, q);
        return one == null ? NONE : one.rule;
    }

    public int first(int voter, int q) {
        Voter asked = post.voterAt(voter);
        if (asked == null || !isUpToNow(q)) {
            return NONE;
        }
        post.judgeOf(asked, q);
        return asked.firstGood;
    }

    public int doubles(int q) {
        if (!isUpToNow(q)) {
            return NONE;
        }
        post.judgeAll(q);
        int found = 0;
        for (int i = 0; i < post.voters.size(); i++) {
            if (post.voters.get(i).manyGood >= 2) {
                found++;
            }
        }
        return found;
    }

    public int many(int shire, int state, int q) {
        if (!isShire(shire) || !isWithin(state, OUT, VOID) || !isUpToNow(q)) {
            return NONE;
        }
        post.judgeAll(q);
        int found = 0;
        for (int i = 0; i < post.envelopes.size(); i++) {
            Envelope one = post.envelopes.get(i);
            if (one.state == state && one.shireOf(q) == shire) {
                found++;
            }
        }
        return found;
    }

    // ---- habits of hands, and what is checked again

    public int habit(int hand, int street, int what) {
        if (!isHand(hand) || !(street == NONE || isStreet(street)) || !isWithin(what, 0, 2)) {
            return NONE;
        }
        int all = post.doublesOf(hand, street, 0, now);
        if (what == 0) {
            return all;
        }
        return all < size ? HIDDEN : post.doublesOf(hand, street, what, now);
    }

    public int harshest() {
        int worst = NONE;
        int worstHarsh = 0;
        int worstAll = 1;
        for (int hand = 0; hand < HANDS; hand++) {
            int all = post.doublesOf(hand, NONE, 0, now);
            int harsh = post.doublesOf(hand, NONE, 1, now);
            // parts are compared crosswise, without a division
            if (all >= size && (worst == NONE || harsh * worstAll > worstHarsh * all)) {
                worst = hand;
                worstHarsh = harsh;
                worstAll = all;
            }
        }
        return worst;
    }

    public boolean size(int n) {
        if (!isWithin(n, 1, MOST_SIZE) || !heaps.isEmpty()) {
            return false;
        }
        size = n;
        return true;
    }

    public int recheck(int k, int i, long seed) {
        if (!isWithin(k, 1, MOST_SIZE) || !isWithin(i, 0, k - 1)) {
            return NONE;
        }
        post.judgeAll(now);
        int left = layCounted();
        if (left < k) {
            return NONE;
        }
        int drawn = NONE;
        long x = seed;
        for (int turn = 0; turn <= i && left > 0 && left <= row.length; turn++) {
            x = x * 6364136223846793005L + 1442695040888963407L;
            int place = (int) ((x >>> 33) % left);
            drawn = row[place];
            System.arraycopy(row, place + 1, row, place, left - place - 1);
            left--;
        }
        return drawn;
    }

    // ---- waves of print

    public int wave(int many, int ready, int due) {
        boolean fits = isWithin(many, 1, 5000) && isDay(ready) && isWithin(due, ready, LAST_DAY);
        if (!fits || printer.waves >= MOST_WAVES) {
            return NONE;
        }
        return printer.order(many, ready, due);
    }

    public boolean press(int many) {
        if (!isWithin(many, 1, 1000)) {
            return false;
        }
        printer.aDay = many;
        return true;
    }

    public int printed(int wave) {
        if (!isWithin(wave, 0, printer.waves - 1)) {
            return NONE;
        }
        printer.plan();
        return printer.end[wave];
    }

    public int latest() {
        printer.plan();
        int most = 0;
        for (int wave = 0; wave < printer.waves; wave++) {
            most = Math.max(most, printer.end[wave] - printer.due[wave]);
        }
        return most;
    }

    // ---- boxes on the road

    public boolean stand(int box, int from, int to) {
        if (!isBox(box) || !isMinute(from) || !isMinute(to) || to < from) {
            return false;
        }
        van.setBox(box, from, to);
        return true;
    }

    public boolean road(int one, int other, int minutes) {
        boolean places = isWithin(one, 0, Van.HOUSE) && isWithin(other, 0, Van.HOUSE) && one != other;
        if (!places || !isWithin(minutes, 1, 300)) {
            return false;
        }
        van.setRoad(one, other, minutes);
        return true;
    }

    public boolean stops(int minutes) {
        if (!isWithin(minutes, 0, 30)) {
            return false;
        }
        van.setStop(minutes);
        return true;
    }

    public int round(int from) {
        if (!isMinute(from)) {
            return NONE;
        }
        van.plan(from);
        return van.home;
    }

    public int route(int from, int i) {
        if (!isMinute(from)) {
            return NONE;
        }
        van.plan(from);
        return van.boxAt(i);
    }

    // ---- what is foretold

    public int usual(int street, int part) {
        if (!isStreet(street) || !isWithin(part, 1, 1000)) {
            return NONE;
        }
        return usualOf(street, part);
    }

    public boolean ends(int shire, int day) {
        if (!isShire(shire) || !isDay(day)) {
            return false;
        }
        ends[shire] = day;
        return true;
    }

    public int late(int envelope) {
        Envelope one = judged(envelope, now);
        if (one == null || one.state != OUT) {
            return NONE;
        }
        int usual = usualOf(one.voter.street, 900);
        int foretold = usual == HIDDEN ? now : one.sent + usual;
        int shire = one.voter.shireOn(now, now);
        return isShire(shire) && foretold > ends[shire] ? 1 : 0;
    }

    // ---- heaps

    public int open(int shire) {
        if (!isShire(shire) || heaps.size() >= MOST_HEAPS) {
            return NONE;
        }
        post.judgeAll(now);
        int fit = 0;
        for (int i = 0; i < post.envelopes.size(); i++) {
            if (fitsHeap(post.envelopes.get(i), shire)) {
                fit++;
            }
        }
        if (fit < size) {
            return NONE;
        }
        Heap heap = new Heap(shire, now);
        for (int i = 0; i < post.envelopes.size(); i++) {
            Envelope one = post.envelopes.get(i);
            if (fitsHeap(one, shire)) {
                heap.lay(one);
            }
        }
        heaps.add(heap);
        return heaps.size() - 1;
    }

    public int heap(int heap, int what) {
        if (!isWithin(heap, 0, heaps.size() - 1)) {
            return NONE;
        }
        Heap asked = heaps.get(heap);
        switch (what) {
            case 5: return asked.all;
            case 6: return asked.shire;
            case 7: return asked.day;
            default: return isChoice(what) ? asked.choices[what] : NONE;
        }
    }

    public int street(int shire, int street, int choice) {
        if (!isShire(shire) || !isStreet(street) || !isChoice(choice)) {
            return NONE;
        }
        int these = 0;
        int others = 0;
        int chosen = 0;
        for (int i = 0; i < post.envelopes.size(); i++) {
            Envelope one = post.envelopes.get(i);
            boolean here = one.heapShire == shire;
            boolean ofStreet = one.voter.street == street;
            these += here && ofStreet ? 1 : 0;
            others += here && !ofStreet ? 1 : 0;
            chosen += here && ofStreet && one.choice == choice ? 1 : 0;
        }
        // a small rest could be told by taking this sum from the heaps' own
        boolean mayBeTold = these >= size && (others == 0 || others >= size);
        return mayBeTold ? chosen : HIDDEN;
    }

    public int count(int what) {
        switch (what) {
            case 0: return now;
            case 1: return post.voters.size();
            case 2: return post.envelopes.size();
            case 3: return post.events;
            case 4: return post.emptyings.size();
            case 5: return post.judge.laws.size();
            case 6: return heaps.size();
            case 7: return manyInHeaps();
            case 8:
                post.judgeAll(now);
                return manyWrong();
            case 9:
                post.judgeAll(now);
                return layCounted();
            case 10: return tape.length;
            case 11: return printer.waves;
            default: return NONE;
        }
    }

    // ---- what the calls share

    private static boolean isWithin(int n, int least, int most) {
        return n >= least && n <= most;
    }

    private static boolean isShire(int n) {
        return isWithin(n, 0, SHIRES - 1);
    }

    private static boolean isStreet(int n) {
        return isWithin(n, 0, STREETS - 1);
    }

    private static boolean isChoice(int n) {
        return isWithin(n, 0, CHOICES - 1);
    }

    private static boolean isBox(int n) {
        return isWithin(n, 0, BOXES - 1);
    }

    private static boolean isHand(int n) {
        return isWithin(n, 0, HANDS - 1);
    }

    private static boolean isSign(int n) {
        return isWithin(n, 0, LAST_SIGN);
    }

    private static boolean isDay(int n) {
        return isWithin(n, 0, LAST_DAY);
    }

    private static boolean isMinute(int n) {
        return isWithin(n, 0, LAST_MINUTE);
    }

    private static boolean isLetter(int n) {
        return isWithin(n, 'a', 'z') && LETTERS.indexOf((char) n) >= 0;
    }

    private boolean isUpToNow(int day) {
        return isWithin(day, 0, now);
    }

    /** How many of the four bytes of a number are not 0. */
    private static int signsIn(int four) {
        int found = 0;
        for (int shift = 24; shift >= 0; shift -= 8) {
            found += (four >>> shift & 255) == 0 ? 0 : 1;
        }
        return found;
    }

    /** An envelope, judged as known in q; null, if there is none such or it was not sent by then. */
    private Envelope judged(int envelope, int q) {
        Envelope one = post.envelopeAt(envelope);
        if (one == null || !isUpToNow(q) || one.told > q) {
            return null;
        }
        post.judgeOf(one.voter, q);
        return one;
    }

    /** Behind judgeAll(now): lays the numbers of what is counted into the row; how many they are. */
    private int layCounted() {
        int laid = 0;
        for (int i = 0; i < post.envelopes.size() && laid < row.length; i++) {
            if (post.envelopes.get(i).isCounted()) {
                row[laid] = i;
                laid++;
            }
        }
        return laid;
    }

    /** USUAL of a street, or HIDDEN. */
    private int usualOf(int street, int part) {
        Arrays.fill(took, 0);
        int come = 0;
        for (int i = 0; i < post.envelopes.size(); i++) {
            Envelope one = post.envelopes.get(i);
            if (one.voter.street == street) {
                post.settle(one, now);
                int needed = Math.max(0, one.comes - one.sent);
                if (one.comes != NONE && needed < took.length) {
                    took[needed]++;
                    come++;
                }
            }
        }
        if (come < size) {
            return HIDDEN;
        }
        int sofar = 0;
        for (int day = 0; day < took.length; day++) {
            sofar += took[day];
            if (sofar * 1000 >= part * come) {
                return day;
            }
        }
        return HIDDEN;
    }

    /** Asked only behind judgeAll(now). */
    private boolean fitsHeap(Envelope one, int shire) {
        return one.heapShire == NONE && one.isCounted() && one.shireOf(now) == shire;
    }

    private int manyInHeaps() {
        int found = 0;
        for (int i = 0; i < heaps.size(); i++) {
            found += heaps.get(i).all;
        }
        return found;
    }

    /** Asked only behind judgeAll(now). */
    private int manyWrong() {
        int found = 0;
        for (int i = 0; i < post.envelopes.size(); i++) {
            Envelope one = post.envelopes.get(i);
            if (one.heapShire != NONE && !one.isCounted()) {
                found++;
            }
        }
        return found;
    }

    /** One thing that was told: of which kind, for which day, what, and on which day it was told. */
    private static final class Told {
        final int kind;
        final int day;
        final int value;
        final int told;

        Told(int kind, int day, int value, int told) {
            this.kind = kind;
            this.day = day;
            this.value = value;
            this.told = told;
        }
    }

    private static final class Voter {
        final int shire;
        final int street;
        final int sign;
        final ArrayList<Told> log = new ArrayList<>();
        final ArrayList<Envelope> envelopes = new ArrayList<>();
        // as known on the day for which the voter was judged last
        int manySent;
        int manyGood;
        int firstGood = NONE;
        int boothDay = NONE;

        Voter(int shire, int street, int sign) {
            this.shire = shire;
            this.street = street;
            this.sign = sign;
        }

        int shireOn(int day, int q) {
            int found = shire;
            int since = NONE;
            for (int i = 0; i < log.size(); i++) {
                Told row = log.get(i);
                if (row.kind == MOVE && row.told <= q && row.day <= day && row.day >= since) {
                    found = row.value;
                    since = row.day;
                }
            }
            return found;
        }

        void learn(int q) {
            manySent = 0;
            manyGood = 0;
            firstGood = NONE;
            boothDay = NONE;
            for (int i = 0; i < log.size(); i++) {
                Told row = log.get(i);
                if (row.kind == BOOTH && row.told <= q) {
                    boothDay = row.day;
                }
            }
        }
    }

    private static final class Envelope {
        final int number;
        final Voter voter;
        final int sent;
        final int choice;
        final int told;
        final ArrayList<Told> log = new ArrayList<>();
        int heapShire = NONE;
        // as known on the day for which it was settled or judged last
        final int[] days = new int[KINDS];
        final int[] values = new int[KINDS];
        int comes = NONE;
        int emptying = NONE;
        int goodAhead;
        int state = NONE;
        int reason = NONE;
        int rule = NONE;

        Envelope(int number, Voter voter, int sent, int choice, int told) {
            this.number = number;
            this.voter = voter;
            this.sent = sent;
            this.choice = choice;
            this.told = told;
        }

        void forget() {
            Arrays.fill(days, NONE);
            Arrays.fill(values, NONE);
            comes = NONE;
            emptying = NONE;
            goodAhead = 0;
            state = NONE;
            reason = NONE;
            rule = NONE;
        }

        void learn(int q) {
            forget();
            for (int i = 0; i < log.size(); i++) {
                Told row = log.get(i);
                if (row.told <= q && isWithin(row.kind, 0, KINDS - 1)) {
                    days[row.kind] = row.day;
                    values[row.kind] = row.value;
                }
            }
        }

        boolean isCounted() {
            return state == GOOD && voter.firstGood == number;
        }

        int shireOf(int q) {
            return voter.shireOn(comes == NONE ? sent : comes, q);
        }

        int unlikeFigures() {
            if (values[SIGN_READ] == NONE) {
                return 9;
            }
            int one = values[SIGN_READ];
            int other = voter.sign;
            int unlike = 0;
            for (int figure = 0; figure < 8; figure++) {
                unlike += one % 10 == other % 10 ? 0 : 1;
                one /= 10;
                other /= 10;
            }
            return unlike;
        }

        int handsThatTold(int answer) {
            int found = 0;
            for (int hand = 0; hand < HANDS; hand++) {
                found += values[HANDED + hand] == answer ? 1 : 0;
            }
            return found;
        }

        /** Doubles of a hand here: what 0 all, 1 harsh ones, 2 soft ones. */
        int doublesOf(int hand, int what) {
            if (!isHand(hand) || values[HANDED + hand] == NONE) {
                return 0;
            }
            int told = values[HANDED + hand];
            int unlike = handsThatTold(1 - told);
            switch (what) {
                case 0: return unlike + handsThatTold(told) - 1;
                case 1: return told == 0 ? unlike : 0;
                default: return told == 1 ? unlike : 0;
            }
        }

        int numberOf(int letter, int q) {
            switch (letter) {
                case 't': return q;
                case 'o': return sent;
                case 'm': return days[MARK];
                case 'c': return comes;
                case 'x': return days[CURE];
                case 'l': return days[LOSS];
                case 'f': return days[FOUND];
                case 'p': return days[SPOIL];
                case 'r': return days[REPLACE];
                case 'b': return voter.boothDay;
                case 'i': return emptying == NONE ? 0 : 1;
                case 's': return unlikeFigures();
                case 'y': return handsThatTold(1);
                case 'z': return handsThatTold(0);
                case 'n': return goodAhead;
                case 'e': return voter.manySent;
                default: return voter.street;
            }
        }
    }

    /** All voters, envelopes and emptyings, and what comes of them as known in q. */
    private static final class Post {
        final ArrayList<Voter> voters = new ArrayList<>();
        final ArrayList<Envelope> envelopes = new ArrayList<>();
        // of these the kind is the box and the value how many were in
        final ArrayList<Told> emptyings = new ArrayList<>();
        final Judge judge = new Judge();
        final ArrayList<Envelope> coming = new ArrayList<>();
        int moves;
        int events;
        int signsRead;
        int handed;
        int booths;

        Voter voterAt(int number) {
            return isWithin(number, 0, voters.size() - 1) ? voters.get(number) : null;
        }

        Envelope envelopeAt(int number) {
            return isWithin(number, 0, envelopes.size() - 1) ? envelopes.get(number) : null;
        }

        /** Finds on which day an envelope comes, and by which emptying if it comes by its box. */
        void settle(Envelope one, int q) {
            one.learn(q);
            one.comes = one.days[COME];
            int emptying = firstEmptying(one.values[DROP], one.days[DROP], q);
            if (isWithin(emptying, 0, emptyings.size() - 1)) {
                int day = emptyings.get(emptying).day;
                if (one.comes == NONE || day < one.comes) {
                    one.comes = day;
                    one.emptying = emptying;
                }
            }
            int lost = one.days[LOSS];
            int found = one.days[FOUND];
            if (lost != NONE && found < lost) {
                one.comes = NONE;
                one.emptying = NONE;
            } else if (lost != NONE && one.comes != NONE) {
                one.comes = Math.max(one.comes, found);
            }
        }

        /** The emptying that takes what was dropped into a box on a day; NONE also for no drop. */
        int firstEmptying(int box, int dropped, int q) {
            int first = NONE;
            int firstDay = LAST_DAY + 1;
            for (int i = 0; i < emptyings.size() && dropped != NONE; i++) {
                Told row = emptyings.get(i);
                if (row.kind == box && row.told <= q && row.day >= dropped && row.day < firstDay) {
                    first = i;
                    firstDay = row.day;
                }
            }
            return first;
        }

        int manyBy(int emptying, int q) {
            int found = 0;
            for (int i = 0; i < envelopes.size(); i++) {
                Envelope one = envelopes.get(i);
                if (one.told <= q) {
                    settle(one, q);
                    found += one.emptying == emptying ? 1 : 0;
                }
            }
            return found;
        }

        void judgeAll(int q) {
            for (int i = 0; i < voters.size(); i++) {
                judgeOf(voters.get(i), q);
            }
        }

        /** Judges all envelopes of a voter together, for each hangs on those that come ahead of it. */
        void judgeOf(Voter voter, int q) {
            voter.learn(q);
            coming.clear();
            for (int i = 0; i < voter.envelopes.size(); i++) {
                Envelope one = voter.envelopes.get(i);
                if (one.told > q) {
                    one.forget();
                } else {
                    voter.manySent++;
                    settle(one, q);
                    putInOrder(one);
                }
            }
            for (int i = 0; i < coming.size(); i++) {
                Envelope one = coming.get(i);
                one.goodAhead = voter.manyGood;
                judge.decide(one, q);
                if (one.state == GOOD) {
                    voter.firstGood = voter.manyGood == 0 ? one.number : voter.firstGood;
                    voter.manyGood++;
                }
            }
        }

        /** Puts an envelope that comes, greater by number than those before, among them by days. */
        void putInOrder(Envelope one) {
            if (one.comes == NONE) {
                one.state = one.days[LOSS] == NONE ? OUT : LOST;
                return;
            }
            int place = coming.size();
            while (place > 0 && coming.get(place - 1).comes > one.comes) {
                place--;
            }
            coming.add(place, one);
        }

        /** Doubles of a hand in a street (NONE: in all) as known in q. */
        int doublesOf(int hand, int street, int what, int q) {
            int found = 0;
            for (int i = 0; i < envelopes.size(); i++) {
                Envelope one = envelopes.get(i);
                if (street == NONE || one.voter.street == street) {
                    one.learn(q);
                    found += one.doublesOf(hand, what);
                }
            }
            return found;
        }
    }

    /**
     * A law as words of a stack machine: from 0 on a number, below 0 a letter or a sign of the text.
     * Of each rule the bounds tell where its condition and its verdict's sum begin.
     */
    private static final class Law {
        final int shire;
        final int day;
        final int told;
        final int rules;
        final int[] words;
        final int[] bounds;
        final int[] verdicts;

        /** The law that stands on a tape on which no fault was found just now. */
        Law(int shire, int day, int told, Tape tape) {
            this.shire = shire;
            this.day = day;
            this.told = told;
            this.rules = tape.rules;
            this.words = Arrays.copyOf(tape.words, tape.manyWords);
            this.bounds = Arrays.copyOf(tape.bounds, 2 * tape.rules + 1);
            this.verdicts = Arrays.copyOf(tape.verdicts, tape.rules);
        }
    }

    /** The tape, and the reader of its text. */
    private static final class Tape {
        static final int END = 0;
        static final int UNARY_MINUS = '~';
        static final int DEEPEST = 8;
        // a rule takes five bytes at least and a ; before the next
        static final int MOST_RULES = 40;

        final int[] text = new int[TAPE_BYTES];
        int length;
        final int[] words = new int[TAPE_BYTES];
        int manyWords;
        final int[] bounds = new int[2 * MOST_RULES + 1];
        final int[] verdicts = new int[MOST_RULES];
        int rules;
        int at;

        void take4(int four) {
            for (int shift = 24; shift >= 0; shift -= 8) {
                int sign = four >>> shift & 255;
                if (sign != 0 && length < text.length) {
                    text[length] = sign;
                    length++;
                }
            }
        }

        /** Reads the text into words: where it can't go on, or NONE. */
        int firstFault() {
            at = 0;
            manyWords = 0;
            rules = 0;
            boolean fits = readRule();
            for (int i = 0; i < length && fits && takes(';'); i++) {
                fits = readRule();
            }
            return fits && nextSign() == END ? NONE : at;
        }

        boolean readRule() {
            if (rules >= MOST_RULES) {
                return false;
            }
            bounds[2 * rules] = manyWords;
            if (!readCondition(0) || !takes('?')) {
                return false;
            }
            bounds[2 * rules + 1] = manyWords;
            if (!readVerdict()) {
                return false;
            }
            rules++;
            bounds[2 * rules] = manyWords;
            return true;
        }

        boolean readVerdict() {
            int verdict = nextSign();
            if (verdict != 'g' && verdict != 'w' && verdict != 'v' && verdict != 'c' || rules >= MOST_RULES) {
                return false;
            }
            at++;
            verdicts[rules] = verdict;
            if (verdict == 'v') {
                return readNumber();
            }
            return verdict != 'c' || readSum(0);
        }

        private boolean readCondition(int depth) {
            boolean fits = readPart(depth);
            for (int i = 0; i < length && fits && takes('|'); i++) {
                fits = readPart(depth);
                write(-'|');
            }
            return fits;
        }

        private boolean readPart(int depth) {
            boolean fits = readUnit(depth);
            for (int i = 0; i < length && fits && takes('&'); i++) {
                fits = readUnit(depth);
                write(-'&');
            }
            return fits;
        }

        private boolean readUnit(int depth) {
            int sign = nextSign();
            if (sign != '!' && sign != '(') {
                return readComparison(depth);
            }
            if (depth >= DEEPEST) {
                return false;
            }
            at++;
            if (sign == '(') {
                return readCondition(depth + 1) && takes(')');
            }
            boolean fits = readUnit(depth + 1);
            write(-'!');
            return fits;
        }

        boolean readComparison(int depth) {
            if (!readSum(depth)) {
                return false;
            }
            int sign = nextSign();
            if (sign != '=' && sign != '<' && sign != '>' && sign != '#') {
                return false;
            }
            at++;
            boolean fits = readSum(depth);
            write(-sign);
            return fits;
        }

        private boolean readSum(int depth) {
            boolean fits = readTerm(depth);
            for (int i = 0; i < length && fits; i++) {
                int sign = nextSign();
                if (sign != '+' && sign != '-') {
                    return true;
                }
                at++;
                fits = readTerm(depth);
                write(-sign);
            }
            return fits;
        }

        private boolean readTerm(int depth) {
            boolean fits = readAtom(depth);
            for (int i = 0; i < length && fits && takes('*'); i++) {
                fits = readAtom(depth);
                write(-'*');
            }
            return fits;
        }

        private boolean readAtom(int depth) {
            int sign = nextSign();
            if (isLetter(sign)) {
                at++;
                write(-sign);
                return true;
            }
            if (sign != '[' && sign != '-') {
                return readNumber();
            }
            if (depth >= DEEPEST) {
                return false;
            }
            at++;
            if (sign == '[') {
                return readSum(depth + 1) && takes(']');
            }
            boolean fits = readAtom(depth + 1);
            write(-UNARY_MINUS);
            return fits;
        }

        boolean readNumber() {
            if (!isWithin(nextSign(), '0', '9')) {
                return false;
            }
            int number = 0;
            for (int figures = 0; figures < 4 && at < length && isWithin(text[at], '0', '9'); figures++) {
                number = number * 10 + text[at] - '0';
                at++;
            }
            write(number);
            return true;
        }

        /** The next sign behind blanks, or END; it stays the next. */
        int nextSign() {
            while (at < length && text[at] == ' ') {
                at++;
            }
            return at < length ? text[at] : END;
        }

        boolean takes(int sign) {
            boolean is = nextSign() == sign;
            at += is ? 1 : 0;
            return is;
        }

        void write(int word) {
            if (manyWords < words.length) {
                words[manyWords] = word;
                manyWords++;
            }
        }
    }

    /** Judges by laws; a condition holds if its words leave something else than 0. */
    private static final class Judge {
        static final int BOUND = 1_000_000;

        final ArrayList<Law> laws = new ArrayList<>();
        final int[] stack = new int[TAPE_BYTES];
        int top;

        int inForce(int shire, int day, int q) {
            int found = NONE;
            int since = NONE;
            for (int i = 0; i < laws.size(); i++) {
                Law law = laws.get(i);
                if (law.shire == shire && law.told <= q && law.day <= day && law.day >= since) {
                    found = i;
                    since = law.day;
                }
            }
            return found;
        }

        /** Gives its state to an envelope that comes. */
        void decide(Envelope one, int q) {
            int number = inForce(one.shireOf(q), one.comes, q);
            if (!isWithin(number, 0, laws.size() - 1)) {
                one.state = WAITS;
                return;
            }
            Law law = laws.get(number);
            for (int rule = 0; rule < law.rules; rule++) {
                if (valueOf(law, 2 * rule, one, q) != 0) {
                    one.rule = rule;
                    pass(one, law.verdicts[rule], valueOf(law, 2 * rule + 1, one, q), q);
                    return;
                }
            }
            one.state = VOID;
            one.reason = NO_RULE;
        }

        void pass(Envelope one, int verdict, int number, int q) {
            switch (verdict) {
                case 'g':
                    one.state = GOOD;
                    break;
                case 'w':
                    one.state = WAITS;
                    break;
                case 'v':
                    one.state = VOID;
                    one.reason = number;
                    break;
                default:
                    awaitCure(one, number, q);
            }
        }

        void awaitCure(Envelope one, int last, int q) {
            int cured = one.days[CURE];
            if (cured != NONE && cured <= last) {
                one.state = GOOD;
            } else if (q <= last) {
                one.state = WAITS;
            } else {
                one.state = VOID;
                one.reason = CURE_TOO_LATE;
            }
        }

        /** What the words between two bounds of a law leave of an envelope; 0, if there are none. */
        int valueOf(Law law, int part, Envelope one, int q) {
            if (!isWithin(part, 0, law.bounds.length - 2)) {
                return 0;
            }
            top = 0;
            for (int i = law.bounds[part]; i < law.bounds[part + 1] && isWithin(i, 0, law.words.length - 1); i++) {
                int sign = -law.words[i];
                if (sign <= 0) {
                    push(-sign);
                } else if (isLetter(sign)) {
                    push(one.numberOf(sign, q));
                } else if (sign == '!') {
                    push(pop() == 0 ? 1 : 0);
                } else if (sign == Tape.UNARY_MINUS) {
                    push(-pop());
                } else {
                    int right = pop();
                    push(joined(sign, pop(), right));
                }
            }
            return pop();
        }

        static int joined(int sign, int left, int right) {
            switch (sign) {
                case '+': return bounded((long) left + right);
                case '-': return bounded((long) left - right);
                case '*': return bounded((long) left * right);
                case '=': return left == right ? 1 : 0;
                case '#': return left != right ? 1 : 0;
                case '<': return left < right ? 1 : 0;
                case '>': return left > right ? 1 : 0;
                case '&': return left & right;
                default: return left | right;
            }
        }

        static int bounded(long n) {
            return (int) Math.max(-BOUND, Math.min(BOUND, n));
        }

        void push(int n) {
            if (top >= 0 && top < stack.length) {
                stack[top] = n;
                top++;
            }
        }

        int pop() {
            if (top <= 0 || top > stack.length) {
                return 0;
            }
            top--;
            return stack[top];
        }
    }

    /** The waves and the press that prints them. */
    private static final class Press {
        // far above what a plan needs: each step ends a wave or goes on to one that gets ready
        static final int MOST_STEPS = 10_000;

        final int[] many = new int[MOST_WAVES];
        final int[] ready = new int[MOST_WAVES];
        final int[] due = new int[MOST_WAVES];
        final int[] left = new int[MOST_WAVES];
        final int[] end = new int[MOST_WAVES];
        int waves;
        int aDay = 100;

        int order(int pieces, int from, int by) {
            if (waves >= MOST_WAVES) {
                return NONE;
            }
            many[waves] = pieces;
            ready[waves] = from;
            due[waves] = by;
            waves++;
            return waves - 1;
        }

        /** Finds the end of each wave, with the press as it is. */
        void plan() {
            System.arraycopy(many, 0, left, 0, MOST_WAVES);
            int day = 0;
            int room = aDay;
            for (int step = 0; step < MOST_STEPS; step++) {
                int wave = mostUrgent(day);
                int next = nextReady(day);
                if (wave == NONE && next == NONE) {
                    return;
                }
                if (wave == NONE) {
                    day = next;
                    room = aDay;
                } else if (left[wave] <= room) {
                    room -= left[wave];
                    left[wave] = 0;
                    end[wave] = day;
                } else {
                    left[wave] -= room;
                    int whole = wholeDays(left[wave], day, next);
                    left[wave] -= whole * aDay;
                    day += whole + 1;
                    room = aDay;
                }
            }
        }

        /** How many days behind a day are all for one wave and don't end it, till another gets ready. */
        int wholeDays(int stillLeft, int day, int next) {
            int whole = aDay < 1 ? 0 : (stillLeft - 1) / aDay;
            return next == NONE ? whole : Math.min(whole, next - day - 1);
        }

        int mostUrgent(int day) {
            int urgent = NONE;
            for (int wave = 0; wave < waves; wave++) {
                boolean waits = left[wave] > 0 && ready[wave] <= day;
                if (waits && (urgent == NONE || due[wave] < due[urgent])) {
                    urgent = wave;
                }
            }
            return urgent;
        }

        int nextReady(int day) {
            int next = NONE;
            for (int wave = 0; wave < waves; wave++) {
                boolean later = left[wave] > 0 && ready[wave] > day;
                if (later && (next == NONE || ready[wave] < next)) {
                    next = ready[wave];
                }
            }
            return next;
        }
    }

    /** The boxes that stand, the roads between them, and the van's best round. */
    private static final class Van {
        static final int HOUSE = BOXES;
        static final int PLACES = BOXES + 1;
        static final int NEVER = 1_000_000;

        final int[] from = new int[BOXES];
        final int[] to = new int[BOXES];
        final int[] roads = new int[PLACES * PLACES];
        // the soonest minute tried so far at a box, by which boxes have been emptied with it
        final int[] soonest = new int[(1 << BOXES) * BOXES];
        final int[] path = new int[BOXES];
        final int[] best = new int[BOXES];
        int stop = 5;
        int all;
        int standing;
        int home = NONE;
        int planned = NONE;

        Van() {
            Arrays.fill(roads, 30);
        }

        void setBox(int box, int opens, int closes) {
            if (isBox(box)) {
                standing += (all >> box & 1) == 0 ? 1 : 0;
                all |= 1 << box;
                from[box] = opens;
                to[box] = closes;
                planned = NONE;
            }
        }

        void setRoad(int one, int other, int minutes) {
            if (isWithin(one, 0, HOUSE) && isWithin(other, 0, HOUSE)) {
                roads[one * PLACES + other] = minutes;
                roads[other * PLACES + one] = minutes;
                planned = NONE;
            }
        }

        void setStop(int minutes) {
            stop = minutes;
            planned = NONE;
        }

        /** Finds the best round from a minute on; kept, as its boxes are asked for one by one. */
        void plan(int start) {
            if (planned == start) {
                return;
            }
            planned = start;
            home = all == 0 ? start : NONE;
            Arrays.fill(soonest, NEVER);
            if (all != 0) {
                goOn(this, HOUSE, start, 0, 0);
            }
        }

        /**
         * Tries the ways on, lower boxes first. A way that is not sooner at a box than an earlier one that
         * has been at the same boxes can't come home sooner than that, and loses to it when they are alike.
         */
        private static void goOn(Van van, int place, int minute, int been, int depth) {
            if (depth >= BOXES || been == van.all) {
                van.comeHome(minute + van.roads[place * PLACES + HOUSE]);
                return;
            }
            for (int box = 0; box < BOXES; box++) {
                int now = been | 1 << box;
                int there = minute + van.roads[place * PLACES + box];
                boolean stands = (van.all & ~been & 1 << box) != 0;
                if (stands && there <= van.to[box] && there < van.soonest[now * BOXES + box]) {
                    van.soonest[now * BOXES + box] = there;
                    van.path[depth] = box;
                    goOn(van, box, Math.max(there, van.from[box]) + van.stop, now, depth + 1);
                }
            }
        }

        int boxAt(int i) {
            int boxes = home == NONE ? 0 : Math.min(standing, best.length);
            return isWithin(i, 0, boxes - 1) ? best[i] : NONE;
        }

        void comeHome(int minute) {
            if (home == NONE || minute < home) {
                home = minute;
                System.arraycopy(path, 0, best, 0, BOXES);
            }
        }
    }

    /** What is told of a heap: its shire, its day, how many, and of each choice. */
    private static final class Heap {
        final int shire;
        final int day;
        final int[] choices = new int[CHOICES];
        int all;

        Heap(int shire, int day) {
            this.shire = shire;
            this.day = day;
        }

        void lay(Envelope one) {
            if (isChoice(one.choice)) {
                one.heapShire = shire;
                choices[one.choice]++;
                all++;
            }
        }
    }
}
