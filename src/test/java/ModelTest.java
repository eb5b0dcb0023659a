/** Random runs of calls, each answer compared with the one of the slow model; the same runs each time. */
public final class ModelTest {
    private static long lot = 20261118;
    private static PostVotes x;
    private static Model y;
    private static int run;
    private static int calls;
    // a run that has only some kinds of calls goes deeper into them
    private static int theme;

    public static void main(String[] args) {
        for (run = 0; run < 400; run++) {
            theme = run % 5;
            x = new PostVotes();
            y = new Model();
            // one turn makes some sixteen calls at most, and answers behind the 512th call are free
            for (calls = 0; calls < 490;) {
                call();
            }
        }
        faults();
        Due.end("ModelTest");
    }

    /** A number from 0 to n - 1. */
    private static int upTo(int n) {
        lot = lot * 2862933555777941757L + 3037000493L;
        return (int) ((lot >>> 33) % n);
    }

    /** Mostly a number within bounds, now and then one right outside. */
    private static int within(int least, int most) {
        int odd = upTo(40);
        if (odd == 0) {
            return least - 1;
        }
        return odd == 1 ? most + 1 : most < least ? least : least + upTo(most - least + 1);
    }

    private static int voter() {
        return within(0, y.count(1) - 1);
    }

    private static int envelope() {
        return within(0, y.count(2) - 1);
    }

    private static int past() {
        int now = y.count(0);
        return upTo(3) == 0 ? within(0, now) : within(Math.max(0, now - 6), now);
    }

    private static void same(String call, int got, int want) {
        calls++;
        Due.is("run " + run + ": " + call, got, want);
    }

    private static void same(String call, boolean got, boolean want) {
        same(call, got ? 1 : 0, want ? 1 : 0);
    }

    private static void call() {
        switch (theme) {
            case 0: telling(upTo(20)); break;
            case 1: if (upTo(3) == 0) { telling(upTo(20)); } else { asking(upTo(16)); } break;
            case 2: if (upTo(2) == 0) { onTheRoad(upTo(9)); } else { asking(upTo(16)); } break;
            default: if (upTo(2) == 0) { telling(upTo(20)); } else { asking(upTo(16)); }
        }
        if (upTo(4) == 0) {
            asking(upTo(16));
        }
    }

    private static void telling(int kind) {
        int a = voter();
        int e = envelope();
        int day = past();
        int n;
        switch (kind) {
            case 0:
                n = upTo(3) == 0 ? within(0, 4) : upTo(2);
                same("days", x.days(n), y.days(n));
                break;
            case 1:
            case 2:
                int sign = upTo(2) * 11111111 + upTo(3);
                int shire = theme == 3 ? within(0, 0) : within(0, 3);
                int street = theme == 3 ? within(0, 1) : within(0, 9);
                same("voter", x.voter(shire, street, sign), y.voter(shire, street, sign));
                break;
            case 3:
                n = within(0, 3);
                same("move", x.move(a, n, day), y.move(a, n, day));
                break;
            case 4:
            case 5:
            case 6:
                n = within(0, 4);
                same("send", x.send(a, day, n), y.send(a, day, n));
                break;
            case 13:
                n = within(0, 7) % 3;
                int in = within(0, 2);
                same("empty", x.empty(n, day, in), y.empty(n, day, in));
                break;
            case 14:
                n = upTo(2) * 11111111 + within(0, 2);
                same("read", x.read(e, n), y.read(e, n));
                break;
            case 15:
            case 16:
                n = within(0, 5);
                boolean yes = upTo(3) > 0;
                same("hand", x.hand(e, n, yes), y.hand(e, n, yes));
                break;
            case 17:
                same("booth", x.booth(a, day), y.booth(a, day));
                break;
            case 18:
                law();
                break;
            case 19:
                rare(upTo(4));
                break;
            default:
                int which = upTo(3) == 0 ? within(1, 8) : 2 + upTo(4);
                int box = which == 3 ? within(0, 2) : upTo(30) == 0 ? 1 : 0;
                same("event", x.event(e, which, day, box), y.event(e, which, day, box));
        }
    }

    private static void rare(int kind) {
        int n = within(0, 3);
        int day = upTo(2) == 0 ? within(0, 400) : within(0, y.count(0));
        int size = upTo(6) == 0 ? within(1, 50) : within(1, 3);
        switch (kind) {
            case 0: same("ends", x.ends(n, day), y.ends(n, day)); break;
            case 1: same("size", x.size(size), y.size(size)); break;
            case 2: same("open", x.open(n), y.open(n)); break;
            default: cut();
        }
    }

    private static void cut() {
        int n = within(0, y.count(10));
        same("end", x.end(n), y.end(n));
        same("fault", x.fault(), y.fault());
    }

    private static void feed(String text) {
        for (int from = 0; from < text.length(); from += 20) {
            int[] five = new int[5];
            for (int i = 0; i < 20; i++) {
                five[i / 4] = five[i / 4] << 8 | (from + i < text.length() ? text.charAt(from + i) & 255 : 0);
            }
            same("feed", x.feed(five[0], five[1], five[2], five[3], five[4]), y.feed(five));
        }
    }

    private static void law() {
        same("end", x.end(0), y.end(0));
        StringBuilder text = new StringBuilder();
        rules(text);
        feed(text.toString());
        same("fault of " + text, x.fault(), y.fault());
        int shire = theme == 3 ? within(0, 0) : within(0, 3);
        int from = upTo(3) == 0 ? within(0, 400) : within(0, y.count(0));
        same("law " + text, x.law(shire, from), y.law(shire, from));
    }

    private static void asking(int kind) {
        int a = voter();
        int e = envelope();
        int q = upTo(2) == 0 ? y.count(0) : past();
        int n = within(0, 3);
        int street = theme == 3 ? within(0, 1) : within(0, 9);
        switch (kind) {
            case 0:
                int day = upTo(2) == 0 ? within(0, 400) : past();
                same("shire", x.shire(a, day, q), y.shire(a, day, q));
                break;
            case 1: n = within(0, y.count(4) - 1); same("sealed", x.sealed(n, q), y.sealed(n, q)); break;
            case 2: day = within(0, 400); same("lawful", x.lawful(n, day, q), y.lawful(n, day, q)); break;
            case 3:
            case 4: letters(e, q); break;
            case 5:
            case 6:
                same("state", x.state(e, q), y.judged(e, q, 0));
                same("reason", x.reason(e, q), y.judged(e, q, 1));
                same("ruled", x.ruled(e, q), y.judged(e, q, 2));
                break;
            case 7: same("first", x.first(a, q), y.first(a, q)); break;
            case 8: same("doubles", x.doubles(q), y.doubles(q)); break;
            case 9: int state = within(0, 4); same("many", x.many(n, state, q), y.many(n, state, q)); break;
            case 10: habits(); break;
            case 11: int k = within(1, 4); int i = within(0, k - 1); same("recheck", x.recheck(k, i, lot), y.recheck(k, i, lot)); break;
            case 12: int part = within(1, 1000); same("usual", x.usual(street, part), y.usual(street, part)); break;
            case 13: same("late", x.late(e), y.late(e)); break;
            case 14: heaps(n, street); break;
            default: int what = within(0, 11); same("count " + what, x.count(what), y.count(what));
        }
    }

    private static void letters(int e, int q) {
        int letter = upTo(20) == 0 ? upTo(300) : "tomcxlfprbisyznek".charAt(upTo(17));
        Integer want = y.letter(e, letter, q);
        same("letter " + letter, Due.letter(x, e, letter, q), want == null ? -1000 : want);
    }

    private static void habits() {
        int hand = within(0, 5);
        int street = within(-1, theme == 3 ? 1 : 9);
        int what = within(0, 2);
        same("habit", x.habit(hand, street, what), y.habit(hand, street, what));
        same("harshest", x.harshest(), y.harshest());
    }

    private static void heaps(int shire, int street) {
        int heap = within(0, y.count(6) - 1);
        int what = within(0, 7);
        same("heap", x.heap(heap, what), y.heap(heap, what));
        int choice = within(0, 4);
        int where = theme == 3 ? 0 : shire;
        same("street", x.street(where, street, choice), y.street(where, street, choice));
    }

    private static void onTheRoad(int kind) {
        int from = within(0, upTo(2) == 0 ? 60 : 1440);
        switch (kind) {
            case 0:
                // days near each other, so that waves get into each other's way
                int many = within(1, upTo(8) == 0 ? 5000 : 600);
                int ready = within(0, upTo(4) == 0 ? 400 : 12);
                int due = within(ready, Math.min(400, ready + 12));
                same("wave", x.wave(many, ready, due), y.wave(many, ready, due));
                break;
            case 1: int aDay = within(1, upTo(8) == 0 ? 1000 : 150); same("press", x.press(aDay), y.press(aDay)); break;
            case 2: int wave = within(0, y.count(11) - 1); same("printed", x.printed(wave), y.printed(wave)); break;
            case 3: same("latest", x.latest(), y.latest()); break;
            case 4:
                int box = within(0, run % 10 == 2 ? 7 : 5);
                int opens = within(0, 300);
                int closes = within(opens, Math.min(1440, opens + 400));
                same("stand", x.stand(box, opens, closes), y.stand(box, opens, closes));
                break;
            case 5: int one = within(0, 8); int other = within(0, 8); int minutes = within(1, 40); same("road", x.road(one, other, minutes), y.road(one, other, minutes)); break;
            case 6: int stop = within(0, upTo(5) == 0 ? 30 : 3); same("stops", x.stops(stop), y.stops(stop)); break;
            case 7: same("round", x.round(from), y.round(from)); break;
            default: int i = within(0, 8); same("route", x.route(from, i), y.route(from, i));
        }
    }

    // ---- texts by lots

    private static void put(StringBuilder text, String piece) {
        if (upTo(12) == 0) {
            text.append(' ');
        }
        text.append(piece);
    }

    private static void rules(StringBuilder text) {
        int rules = 1 + upTo(4);
        for (int i = 0; i < rules; i++) {
            int before = text.length();
            put(text, i == 0 ? "" : ";");
            condition(text, 3);
            put(text, "?");
            switch (upTo(6)) {
                case 0: put(text, "w"); break;
                case 1: put(text, "v"); put(text, "" + upTo(10000)); break;
                case 2: put(text, "c"); put(text, "c"); put(text, "+"); sum(text, 1); break;
                default: put(text, "g");
            }
            if (text.length() > 200) {
                text.setLength(before == 0 ? 0 : before);
                text.append(before == 0 ? "1=1?g" : "");
                return;
            }
        }
    }

    private static void condition(StringBuilder text, int depth) {
        unit(text, depth);
        while (upTo(3) == 0) {
            put(text, upTo(2) == 0 ? "&" : "|");
            unit(text, depth);
        }
    }

    private static void unit(StringBuilder text, int depth) {
        int kind = depth == 0 ? 9 : upTo(8);
        if (kind == 0) {
            put(text, "!");
            unit(text, depth - 1);
        } else if (kind == 1) {
            put(text, "(");
            condition(text, depth - 1);
            put(text, ")");
        } else {
            sum(text, depth);
            put(text, "" + "=<>#".charAt(upTo(4)));
            sum(text, depth);
        }
    }

    private static void sum(StringBuilder text, int depth) {
        atom(text, depth);
        while (upTo(4) == 0) {
            put(text, "" + "+-*".charAt(upTo(3)));
            atom(text, depth);
        }
    }

    private static void atom(StringBuilder text, int depth) {
        int kind = upTo(10);
        if (kind == 0 && depth > 0) {
            put(text, "[");
            sum(text, depth - 1);
            put(text, "]");
        } else if (kind == 1 && depth > 0) {
            put(text, "-");
            atom(text, depth - 1);
        } else if (kind < 5) {
            put(text, "" + (upTo(6) == 0 ? upTo(10000) : upTo(4)));
        } else {
            put(text, "" + "tomcxlfprbisyznek".charAt(upTo(17)));
        }
    }

    /** Texts with a byte changed, left out or put in, and texts that are lots alone. */
    private static void faults() {
        String signs = "0123456789tcngwv;?|&!()[]=<>#+-* \u00E9a";
        for (int i = 0; i < 60_000; i++) {
            StringBuilder text = new StringBuilder();
            if (i % 4 == 0) {
                int length = upTo(14);
                for (int j = 0; j < length; j++) {
                    text.append("![-(1t=".charAt(upTo(7)));
                }
            } else {
                rules(text);
                for (int changes = upTo(3); changes > 0; changes--) {
                    int at = upTo(text.length());
                    int how = upTo(3);
                    String sign = "" + signs.charAt(upTo(signs.length()));
                    text.replace(at, at + (how == 0 ? 0 : 1), how == 1 ? "" : sign);
                }
            }
            if (text.length() > 200) {
                text.setLength(200);
            }
            if (i % 30 == 0) {
                x = new PostVotes();
            }
            Due.is("fault of " + text, Due.fault(x, text.toString()), ModelLaw.fault(text.toString()));
        }
    }
}
