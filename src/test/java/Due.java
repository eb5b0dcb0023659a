/** What the tests share: it compares answers with those that are due, and feeds texts to the tape. */
final class Due {
    private static int right;
    private static int wrong;
    private static String held = "";

    private Due() {
    }

    /** The sentence of the document that the next answers hold, and its part: a promise, or one of the six of Terms. */
    static void sentence(String part, String words) {
        held = "";
        yes(part + " has the words: " + words, !Doc.isThere() || Doc.hold(part, words));
        held = part + ", \"" + words + "\": ";
    }

    static void is(String call, long got, long want) {
        if (got == want) {
            right++;
        } else {
            wrong++;
            System.out.println(held + call + " answered " + got + ", due is " + want);
        }
    }

    static void yes(String call, boolean got) {
        is(call, got ? 1 : 0, 1);
    }

    static void no(String call, boolean got) {
        is(call, got ? 1 : 0, 0);
    }

    static void end(String test) {
        System.out.println(test + ": " + right + " answers as due, " + wrong + " not");
        if (wrong != 0 || right == 0) {
            System.exit(1);
        }
    }

    /** Feeds a text of at most 200 bytes: what the last feed answered. */
    static int feed(PostVotes x, String text) {
        int answer = x.count(10);
        for (int from = 0; from < text.length(); from += 20) {
            answer = x.feed(four(text, from), four(text, from + 4), four(text, from + 8), four(text, from + 12), four(text, from + 16));
        }
        return answer;
    }

    private static int four(String text, int from) {
        int number = 0;
        for (int i = from; i < from + 4; i++) {
            number = number << 8 | (i < text.length() ? text.charAt(i) & 255 : 0);
        }
        return number;
    }

    /** The fault of a text on an emptied tape. */
    static int fault(PostVotes x, String text) {
        x.end(0);
        feed(x, text);
        return x.fault();
    }

    /** Makes a text a law of a shire from day 0 on. */
    static int law(PostVotes x, int shire, String text) {
        x.end(0);
        feed(x, text);
        return x.law(shire, 0);
    }

    /** A letter's number, or -1000 where the call throws NoSuchElementException. */
    static int letter(PostVotes x, int envelope, int letter, int q) {
        try {
            return x.letter(envelope, letter, q);
        } catch (java.util.NoSuchElementException none) {
            return -1000;
        }
    }
}
