import java.util.ArrayList;
import java.util.Arrays;
import java.util.Collections;
import java.util.List;

/** The document once more, as slowly and plainly as can be: all is kept as told, and searched anew for each answer. */
final class Model {
    private final List<int[]> voters = new ArrayList<>();
    private final List<int[]> moves = new ArrayList<>();
    private final List<int[]> envelopes = new ArrayList<>();
    private final List<int[]> events = new ArrayList<>();
    private final List<int[]> emptyings = new ArrayList<>();
    private final List<int[]> signs = new ArrayList<>();
    private final List<int[]> hands = new ArrayList<>();
    private final List<int[]> booths = new ArrayList<>();
    private final List<int[]> laws = new ArrayList<>();
    private final List<ModelLaw> texts = new ArrayList<>();
    private final List<int[]> heaps = new ArrayList<>();
    private final List<List<Integer>> inHeaps = new ArrayList<>();
    private final List<int[]> waves = new ArrayList<>();
    private final int[][] boxes = new int[8][];
    private final int[][] roads = new int[9][9];
    private final int[] ends = {300, 300, 300, 300};
    private String tape = "";
    private int now;
    private int size = 5;
    private int press = 100;
    private int stop = 5;

    Model() {
        for (int[] row : roads) {
            Arrays.fill(row, 30);
        }
    }

    private boolean past(int day) {
        return day >= 0 && day <= now;
    }

    private static boolean in(int n, int least, int most) {
        return least <= n && n <= most;
    }

    int days(int n) {
        if (!in(n, 0, 400) || now + n > 400) {
            return -1;
        }
        return now += n;
    }

    int voter(int shire, int street, int sign) {
        if (!in(shire, 0, 3) || !in(street, 0, 9) || !in(sign, 0, 99999999) || voters.size() == 60) {
            return -1;
        }
        voters.add(new int[] {shire, street, sign});
        return voters.size() - 1;
    }

    boolean isVoter(int n) {
        return in(n, 0, voters.size() - 1);
    }

    boolean isEnvelope(int n) {
        return in(n, 0, envelopes.size() - 1);
    }

    boolean move(int voter, int shire, int day) {
        return isVoter(voter) && in(shire, 0, 3) && past(day) && moves.size() < 60 && moves.add(new int[] {voter, shire, day, now});
    }

    int shire(int voter, int day, int q) {
        if (!isVoter(voter) || !in(day, 0, 400) || !past(q)) {
            return -1;
        }
        for (int d = day; d >= 0; d--) {
            for (int i = moves.size() - 1; i >= 0; i--) {
                int[] m = moves.get(i);
                if (m[0] == voter && m[2] == d && m[3] <= q) {
                    return m[1];
                }
            }
        }
        return voters.get(voter)[0];
    }

    int send(int voter, int day, int choice) {
        if (!isVoter(voter) || !past(day) || !in(choice, 0, 4) || envelopes.size() == 200) {
            return -1;
        }
        envelopes.add(new int[] {voter, day, choice, now});
        return envelopes.size() - 1;
    }

    boolean event(int envelope, int kind, int day, int box) {
        return isEnvelope(envelope) && in(kind, 1, 8) && past(day) && (kind == 3 ? in(box, 0, 7) : box == 0)
            && events.size() < 600 && events.add(new int[] {envelope, kind, day, box, now});
    }

    int empty(int box, int day, int many) {
        if (!in(box, 0, 7) || !past(day) || !in(many, 0, 200) || emptyings.size() == 200) {
            return -1;
        }
        emptyings.add(new int[] {box, day, many, now});
        return emptyings.size() - 1;
    }

    private int[] lastEvent(int e, int kind, int q) {
        int[] found = null;
        for (int[] v : events) {
            if (v[0] == e && v[1] == kind && v[4] <= q) {
                found = v;
            }
        }
        return found;
    }

    private int dayOf(int e, int kind, int q) {
        int[] v = lastEvent(e, kind, q);
        return v == null ? -1 : v[2];
    }

    /** The day on which an envelope comes and the emptying by which it does, both -1 for none. */
    private int[] coming(int e, int q) {
        int[] drop = lastEvent(e, 3, q);
        int by = -1;
        for (int d = drop == null ? 401 : drop[2]; d <= 400 && by < 0; d++) {
            for (int i = 0; i < emptyings.size() && by < 0; i++) {
                int[] m = emptyings.get(i);
                by = m[0] == drop[3] && m[1] == d && m[3] <= q ? i : -1;
            }
        }
        int come = dayOf(e, 2, q);
        int byDay = by < 0 ? 1000 : emptyings.get(by)[1];
        int ownDay = come < 0 ? 1000 : come;
        int day = Math.min(byDay, ownDay);
        by = byDay < ownDay ? by : -1;
        int lost = dayOf(e, 4, q);
        int found = dayOf(e, 5, q);
        if (day == 1000 || lost >= 0 && (found < 0 || found < lost)) {
            return new int[] {-1, -1};
        }
        return new int[] {lost >= 0 ? Math.max(day, found) : day, by};
    }

    private boolean known(int e, int q) {
        return envelopes.get(e)[3] <= q;
    }

    int sealed(int emptying, int q) {
        if (!in(emptying, 0, emptyings.size() - 1) || !past(q) || emptyings.get(emptying)[3] > q) {
            return -1;
        }
        int in = 0;
        for (int e = 0; e < envelopes.size(); e++) {
            in += known(e, q) && coming(e, q)[1] == emptying ? 1 : 0;
        }
        return in == emptyings.get(emptying)[2] ? 0 : 1;
    }

    boolean read(int envelope, int sign) {
        return isEnvelope(envelope) && in(sign, 0, 99999999) && signs.size() < 400 && signs.add(new int[] {envelope, sign, now});
    }

    boolean hand(int envelope, int hand, boolean yes) {
        return isEnvelope(envelope) && in(hand, 0, 5) && hands.size() < 600 && hands.add(new int[] {envelope, hand, yes ? 1 : 0, now});
    }

    boolean booth(int voter, int day) {
        return isVoter(voter) && past(day) && booths.size() < 100 && booths.add(new int[] {voter, day, now});
    }

    int feed(int... numbers) {
        StringBuilder more = new StringBuilder(tape);
        for (int n : numbers) {
            for (byte b : java.nio.ByteBuffer.allocate(4).putInt(n).array()) {
                if (b != 0) {
                    more.append((char) (b & 255));
                }
            }
        }
        if (more.length() > 200) {
            return -1;
        }
        tape = more.toString();
        return tape.length();
    }

    boolean end(int n) {
        if (!in(n, 0, tape.length())) {
            return false;
        }
        tape = tape.substring(0, n);
        return true;
    }

    int fault() {
        return ModelLaw.fault(tape);
    }

    int law(int shire, int day) {
        if (fault() != -1 || !in(shire, 0, 3) || !in(day, 0, 400) || laws.size() == 30) {
            return -1;
        }
        laws.add(new int[] {shire, day, now});
        texts.add(new ModelLaw(tape));
        tape = "";
        return laws.size() - 1;
    }

    int lawful(int shire, int day, int q) {
        if (!in(shire, 0, 3) || !in(day, 0, 400) || !past(q)) {
            return -1;
        }
        for (int d = day; d >= 0; d--) {
            for (int i = laws.size() - 1; i >= 0; i--) {
                int[] law = laws.get(i);
                if (law[0] == shire && law[1] == d && law[2] <= q) {
                    return i;
                }
            }
        }
        return -1;
    }

    private int answer(int e, int hand, int q) {
        int found = -1;
        for (int[] h : hands) {
            found = h[0] == e && h[1] == hand && h[3] <= q ? h[2] : found;
        }
        return found;
    }

    private int answers(int e, int what, int q) {
        int found = 0;
        for (int hand = 0; hand < 6; hand++) {
            found += answer(e, hand, q) == what ? 1 : 0;
        }
        return found;
    }

    /** All other envelopes of the voter that come ahead of one, as known in q. */
    private List<Integer> ahead(int e, int q) {
        List<Integer> found = new ArrayList<>();
        int day = coming(e, q)[0];
        for (int other = 0; other < envelopes.size() && day >= 0; other++) {
            if (envelopes.get(other)[0] == envelopes.get(e)[0] && known(other, q) && other != e) {
                int theirs = coming(other, q)[0];
                if (theirs >= 0 && (theirs < day || theirs == day && other < e)) {
                    found.add(other);
                }
            }
        }
        return found;
    }

    int letter(int e, char letter, int q) {
        int voter = envelopes.get(e)[0];
        int found = 0;
        switch (letter) {
            case 't': return q;
            case 'o': return envelopes.get(e)[1];
            case 'm': return dayOf(e, 1, q);
            case 'c': return coming(e, q)[0];
            case 'x': return dayOf(e, 6, q);
            case 'l': return dayOf(e, 4, q);
            case 'f': return dayOf(e, 5, q);
            case 'p': return dayOf(e, 7, q);
            case 'r': return dayOf(e, 8, q);
            case 'b':
                found = -1;
                for (int[] b : booths) {
                    found = b[0] == voter && b[2] <= q ? b[1] : found;
                }
                return found;
            case 'i': return coming(e, q)[1] >= 0 ? 1 : 0;
            case 's':
                found = 9;
                for (int[] s : signs) {
                    if (s[0] == e && s[2] <= q) {
                        String one = String.format("%08d", s[1]);
                        String two = String.format("%08d", voters.get(voter)[2]);
                        found = 0;
                        for (int i = 0; i < 8; i++) {
                            found += one.charAt(i) == two.charAt(i) ? 0 : 1;
                        }
                    }
                }
                return found;
            case 'y': return answers(e, 1, q);
            case 'z': return answers(e, 0, q);
            case 'n':
                for (int other : ahead(e, q)) {
                    found += judged(other, q)[0] == 2 ? 1 : 0;
                }
                return found;
            case 'e':
                for (int other = 0; other < envelopes.size(); other++) {
                    found += envelopes.get(other)[0] == voter && known(other, q) ? 1 : 0;
                }
                return found;
            default: return voters.get(voter)[1];
        }
    }

    Integer letter(int e, int letter, int q) {
        boolean is = in(letter, 0, 255) && "tomcxlfprbisyznek".indexOf(letter) >= 0;
        return is && isEnvelope(e) && past(q) && known(e, q) ? (Integer) letter(e, (char) letter, q) : null;
    }

    /** State, reason and rule of an envelope that is known in q. */
    private int[] judged(int e, int q) {
        int day = coming(e, q)[0];
        if (day < 0) {
            return new int[] {dayOf(e, 4, q) >= 0 ? 1 : 0, -1, -1};
        }
        int law = lawful(shire(envelopes.get(e)[0], day, q), day, q);
        if (law < 0) {
            return new int[] {3, -1, -1};
        }
        ModelLaw text = texts.get(law);
        ModelLaw.Letters letters = c -> letter(e, c, q);
        int rule = text.rule(letters);
        if (rule < 0) {
            return new int[] {4, 9991, -1};
        }
        int number = text.number(rule, letters);
        switch (text.verdict(rule)) {
            case 'g': return new int[] {2, -1, rule};
            case 'w': return new int[] {3, -1, rule};
            case 'v': return new int[] {4, number, rule};
            default:
                int cure = dayOf(e, 6, q);
                if (cure >= 0 && cure <= number) {
                    return new int[] {2, -1, rule};
                }
                return q <= number ? new int[] {3, -1, rule} : new int[] {4, 9990, rule};
        }
    }

    int judged(int e, int q, int what) {
        return isEnvelope(e) && past(q) && known(e, q) ? judged(e, q)[what] : -1;
    }

    private List<Integer> good(int voter, int q) {
        List<Integer> found = new ArrayList<>();
        for (int e = 0; e < envelopes.size(); e++) {
            if (envelopes.get(e)[0] == voter && known(e, q) && judged(e, q)[0] == 2) {
                found.add(e);
            }
        }
        return found;
    }

    int first(int voter, int q) {
        if (!isVoter(voter) || !past(q)) {
            return -1;
        }
        int found = -1;
        for (int e : good(voter, q)) {
            found = found < 0 || coming(e, q)[0] < coming(found, q)[0] ? e : found;
        }
        return found;
    }

    int doubles(int q) {
        int found = 0;
        for (int v = 0; v < voters.size() && past(q); v++) {
            found += good(v, q).size() > 1 ? 1 : 0;
        }
        return past(q) ? found : -1;
    }

    int many(int shire, int state, int q) {
        if (!in(shire, 0, 3) || !in(state, 0, 4) || !past(q)) {
            return -1;
        }
        int found = 0;
        for (int e = 0; e < envelopes.size(); e++) {
            if (known(e, q)) {
                int day = coming(e, q)[0] < 0 ? envelopes.get(e)[1] : coming(e, q)[0];
                found += judged(e, q)[0] == state && shire(envelopes.get(e)[0], day, q) == shire ? 1 : 0;
            }
        }
        return found;
    }

    int[] habits(int hand, int street) {
        int[] found = new int[3];
        for (int e = 0; e < envelopes.size(); e++) {
            boolean here = street < 0 || voters.get(envelopes.get(e)[0])[1] == street;
            for (int other = 0; other < 6 && here; other++) {
                int one = answer(e, hand, now);
                int two = answer(e, other, now);
                if (other != hand && one >= 0 && two >= 0) {
                    found[0]++;
                    found[1] += one == 0 && two == 1 ? 1 : 0;
                    found[2] += one == 1 && two == 0 ? 1 : 0;
                }
            }
        }
        return found;
    }

    int habit(int hand, int street, int what) {
        if (!in(hand, 0, 5) || !in(street, -1, 9) || !in(what, 0, 2)) {
            return -1;
        }
        int[] found = habits(hand, street);
        return what > 0 && found[0] < size ? -2 : found[what];
    }

    int harshest() {
        int worst = -1;
        for (int hand = 0; hand < 6; hand++) {
            int[] mine = habits(hand, -1);
            int[] theirs = worst < 0 ? null : habits(worst, -1);
            if (mine[0] >= size && (worst < 0 || (double) mine[1] / mine[0] > (double) theirs[1] / theirs[0] + 1e-12)) {
                worst = hand;
            }
        }
        return worst;
    }

    boolean size(int n) {
        if (!in(n, 1, 50) || !heaps.isEmpty()) {
            return false;
        }
        size = n;
        return true;
    }

    private List<Integer> counted() {
        List<Integer> found = new ArrayList<>();
        for (int v = 0; v < voters.size(); v++) {
            if (first(v, now) >= 0) {
                found.add(first(v, now));
            }
        }
        Collections.sort(found);
        return found;
    }

    int recheck(int k, int i, long seed) {
        List<Integer> left = counted();
        if (!in(k, 1, 50) || !in(i, 0, k - 1) || left.size() < k) {
            return -1;
        }
        int drawn = -1;
        for (int turn = 0; turn <= i; turn++) {
            seed = seed * 6364136223846793005L + 1442695040888963407L;
            drawn = left.remove((int) Long.remainderUnsigned(seed >>> 33, left.size()));
        }
        return drawn;
    }

    int wave(int many, int ready, int due) {
        if (!in(many, 1, 5000) || !in(ready, 0, 400) || !in(due, ready, 400) || waves.size() == 12) {
            return -1;
        }
        waves.add(new int[] {many, ready, due});
        return waves.size() - 1;
    }

    boolean press(int many) {
        press = in(many, 1, 1000) ? many : press;
        return in(many, 1, 1000);
    }

    private int[] plan() {
        int[] left = new int[waves.size()];
        int[] end = new int[waves.size()];
        int undone = waves.size();
        for (int w = 0; w < left.length; w++) {
            left[w] = waves.get(w)[0];
        }
        for (int day = 0; undone > 0; day++) {
            int room = press;
            for (int due = 0; due <= 400; due++) {
                for (int w = 0; w < left.length; w++) {
                    if (waves.get(w)[2] == due && waves.get(w)[1] <= day && left[w] > 0) {
                        int now = Math.min(room, left[w]);
                        room -= now;
                        left[w] -= now;
                        if (left[w] == 0) {
                            end[w] = day;
                            undone--;
                        }
                    }
                }
            }
        }
        return end;
    }

    int printed(int wave) {
        return in(wave, 0, waves.size() - 1) ? plan()[wave] : -1;
    }

    int latest() {
        int most = 0;
        int[] end = plan();
        for (int w = 0; w < end.length; w++) {
            most = Math.max(most, end[w] - waves.get(w)[2]);
        }
        return most;
    }

    boolean stand(int box, int from, int to) {
        if (!in(box, 0, 7) || !in(from, 0, 1440) || !in(to, from, 1440)) {
            return false;
        }
        boxes[box] = new int[] {from, to};
        return true;
    }

    boolean road(int one, int other, int minutes) {
        if (!in(one, 0, 8) || !in(other, 0, 8) || one == other || !in(minutes, 1, 300)) {
            return false;
        }
        roads[one][other] = minutes;
        roads[other][one] = minutes;
        return true;
    }

    boolean stops(int minutes) {
        stop = in(minutes, 0, 30) ? minutes : stop;
        return in(minutes, 0, 30);
    }

    /** The best round from a place on: when it is home, then its boxes; null, if there is none. */
    private List<Integer> best(int place, int minute, List<Integer> left) {
        List<Integer> best = null;
        if (left.isEmpty()) {
            best = new ArrayList<>();
            best.add(place == 8 ? minute : minute + roads[place][8]);
        }
        for (int box : left) {
            int there = minute + roads[place][box];
            if (there <= boxes[box][1]) {
                List<Integer> others = new ArrayList<>(left);
                others.remove((Integer) box);
                List<Integer> way = best(box, Math.max(there, boxes[box][0]) + stop, others);
                if (way != null && (best == null || way.get(0) < best.get(0))) {
                    way.add(1, box);
                    best = way;
                }
            }
        }
        return best;
    }

    private List<Integer> best(int from) {
        List<Integer> all = new ArrayList<>();
        for (int box = 0; box < 8; box++) {
            if (boxes[box] != null) {
                all.add(box);
            }
        }
        return in(from, 0, 1440) ? best(8, from, all) : null;
    }

    int round(int from) {
        List<Integer> way = best(from);
        return way == null ? -1 : way.get(0);
    }

    int route(int from, int i) {
        List<Integer> way = best(from);
        return way == null || !in(i, 0, way.size() - 2) ? -1 : way.get(i + 1);
    }

    int usual(int street, int part) {
        if (!in(street, 0, 9) || !in(part, 1, 1000)) {
            return -1;
        }
        List<Integer> took = new ArrayList<>();
        for (int e = 0; e < envelopes.size(); e++) {
            int day = coming(e, now)[0];
            if (voters.get(envelopes.get(e)[0])[1] == street && day >= 0) {
                took.add(Math.max(0, day - envelopes.get(e)[1]));
            }
        }
        Collections.sort(took);
        return took.size() < size ? -2 : took.get((took.size() * part + 999) / 1000 - 1);
    }

    boolean ends(int shire, int day) {
        if (!in(shire, 0, 3) || !in(day, 0, 400)) {
            return false;
        }
        ends[shire] = day;
        return true;
    }

    int late(int e) {
        if (judged(e, now, 0) != 0) {
            return -1;
        }
        int voter = envelopes.get(e)[0];
        int usual = usual(voters.get(voter)[1], 900);
        int day = usual == -2 ? now : envelopes.get(e)[1] + usual;
        return day > ends[shire(voter, now, now)] ? 1 : 0;
    }

    private List<Integer> laid() {
        List<Integer> found = new ArrayList<>();
        for (List<Integer> heap : inHeaps) {
            found.addAll(heap);
        }
        return found;
    }

    int open(int shire) {
        if (!in(shire, 0, 3) || heaps.size() == 40) {
            return -1;
        }
        List<Integer> fit = new ArrayList<>();
        for (int e : counted()) {
            if (shire(envelopes.get(e)[0], coming(e, now)[0], now) == shire && !laid().contains(e)) {
                fit.add(e);
            }
        }
        if (fit.size() < size) {
            return -1;
        }
        inHeaps.add(fit);
        heaps.add(new int[] {shire, now});
        return heaps.size() - 1;
    }

    int heap(int heap, int what) {
        if (!in(heap, 0, heaps.size() - 1) || !in(what, 0, 7)) {
            return -1;
        }
        int found = 0;
        for (int e : inHeaps.get(heap)) {
            found += what == 5 || envelopes.get(e)[2] == what ? 1 : 0;
        }
        return what == 6 ? heaps.get(heap)[0] : what == 7 ? heaps.get(heap)[1] : found;
    }

    int street(int shire, int street, int choice) {
        if (!in(shire, 0, 3) || !in(street, 0, 9) || !in(choice, 0, 4)) {
            return -1;
        }
        int these = 0;
        int others = 0;
        int sum = 0;
        for (int h = 0; h < heaps.size(); h++) {
            for (int e : inHeaps.get(h)) {
                if (heaps.get(h)[0] == shire) {
                    boolean mine = voters.get(envelopes.get(e)[0])[1] == street;
                    these += mine ? 1 : 0;
                    others += mine ? 0 : 1;
                    sum += mine && envelopes.get(e)[2] == choice ? 1 : 0;
                }
            }
        }
        return these < size || others > 0 && others < size ? -2 : sum;
    }

    int count(int what) {
        List<Integer> wrong = laid();
        wrong.removeAll(what == 8 ? counted() : new ArrayList<Integer>());
        int[] all = {now, voters.size(), envelopes.size(), events.size(), emptyings.size(), laws.size(), heaps.size(), laid().size(), wrong.size(),
            what == 9 ? counted().size() : 0, tape.length(), waves.size()};
        return in(what, 0, 11) ? all[what] : -1;
    }
}
