import java.util.ArrayList;
import java.util.List;

/**
 * Law texts, handled in another way than the program does: faults by a machine that takes byte after
 * byte, and values by splitting the text at its outermost signs.
 */
final class ModelLaw {
    /** What a text gives of an envelope. */
    interface Letters {
        int of(char letter);
    }

    private static final String LETTERS = "tomcxlfprbisyznek";
    private final List<String> rules = new ArrayList<>();

    ModelLaw(String text) {
        for (String rule : text.replace(" ", "").split(";")) {
            rules.add(rule);
        }
    }

    /** The first rule that holds, or -1. */
    int rule(Letters letters) {
        for (int i = 0; i < rules.size(); i++) {
            String rule = rules.get(i);
            if (holds(rule.substring(0, rule.indexOf('?')), letters)) {
                return i;
            }
        }
        return -1;
    }

    char verdict(int rule) {
        return verdictOf(rule).charAt(0);
    }

    int number(int rule, Letters letters) {
        String sum = verdictOf(rule).substring(1);
        return sum.isEmpty() ? 0 : value(sum, letters);
    }

    private String verdictOf(int rule) {
        String text = rules.get(rule);
        return text.substring(text.indexOf('?') + 1);
    }

    /** The places of any of some signs outside of all brackets. */
    private static List<Integer> outermost(String text, String signs) {
        List<Integer> places = new ArrayList<>();
        int open = 0;
        for (int i = 0; i < text.length(); i++) {
            char c = text.charAt(i);
            if (c == '(' || c == '[') {
                open++;
            } else if (c == ')' || c == ']') {
                open--;
            } else if (open == 0 && signs.indexOf(c) >= 0) {
                places.add(i);
            }
        }
        return places;
    }

    private static boolean holds(String text, Letters letters) {
        for (String sign : new String[] {"|", "&"}) {
            List<Integer> places = outermost(text, sign);
            if (!places.isEmpty()) {
                boolean left = holds(text.substring(0, places.get(0)), letters);
                boolean right = holds(text.substring(places.get(0) + 1), letters);
                return sign.equals("|") ? left || right : left && right;
            }
        }
        if (text.charAt(0) == '!') {
            return !holds(text.substring(1), letters);
        }
        if (text.charAt(0) == '(') {
            return holds(text.substring(1, text.length() - 1), letters);
        }
        int at = outermost(text, "=<>#").get(0);
        int left = value(text.substring(0, at), letters);
        int right = value(text.substring(at + 1), letters);
        switch (text.charAt(at)) {
            case '=': return left == right;
            case '<': return left < right;
            case '>': return left > right;
            default: return left != right;
        }
    }

    private static int value(String text, Letters letters) {
        List<Integer> places = outermost(text, "+-");
        for (int i = places.size() - 1; i >= 0; i--) {
            int at = places.get(i);
            // a minus behind a sign, or at the beginning, belongs to its atom
            if (at > 0 && "+-*".indexOf(text.charAt(at - 1)) < 0) {
                long left = value(text.substring(0, at), letters);
                long right = value(text.substring(at + 1), letters);
                return bounded(text.charAt(at) == '+' ? left + right : left - right);
            }
        }
        List<Integer> stars = outermost(text, "*");
        if (!stars.isEmpty()) {
            int at = stars.get(stars.size() - 1);
            return bounded((long) value(text.substring(0, at), letters) * value(text.substring(at + 1), letters));
        }
        char c = text.charAt(0);
        if (c == '-') {
            return -value(text.substring(1), letters);
        }
        if (c == '[') {
            return value(text.substring(1, text.length() - 1), letters);
        }
        return c >= '0' && c <= '9' ? Integer.parseInt(text) : letters.of(c);
    }

    private static int bounded(long n) {
        return n > 1_000_000 ? 1_000_000 : n < -1_000_000 ? -1_000_000 : (int) n;
    }

    private enum Wait { UNIT, ATOM, BEHIND_ATOM, BEHIND_BRACKET, VERDICT, NUMBER, BEHIND_VERDICT }

    /** The first byte at which no text can go on; the length, if it ends too early; -1. */
    static int fault(String text) {
        Wait wait = Wait.UNIT;
        StringBuilder open = new StringBuilder();
        // 0 the left side of a comparison, 1 the right one, 2 a verdict
        int side = 0;
        int figures = 0;
        for (int i = 0; i < text.length(); i++) {
            char c = text.charAt(i);
            boolean figure = c >= '0' && c <= '9';
            if (c == ' ') {
                figures = figures > 0 ? 4 : 0;
                continue;
            }
            if (figures > 0 && figures < 4 && figure) {
                figures++;
                continue;
            }
            figures = 0;
            switch (wait) {
                case UNIT:
                case ATOM:
                    if (wait == Wait.UNIT) {
                        side = 0;
                    }
                    if (figure || LETTERS.indexOf(c) >= 0) {
                        figures = figure ? 1 : 0;
                        strip(open, '-');
                        wait = Wait.BEHIND_ATOM;
                    } else if (c == '[' || c == '-' || wait == Wait.UNIT && (c == '!' || c == '(')) {
                        if (open.length() == 8) {
                            return i;
                        }
                        open.append(c);
                        wait = c == '[' || c == '-' ? Wait.ATOM : Wait.UNIT;
                    } else {
                        return i;
                    }
                    break;
                case BEHIND_ATOM:
                    boolean inSum = open.length() > 0 && open.charAt(open.length() - 1) == '[';
                    if ("+-*".indexOf(c) >= 0) {
                        wait = Wait.ATOM;
                    } else if (inSum && c == ']') {
                        open.setLength(open.length() - 1);
                        strip(open, '-');
                    } else if (inSum) {
                        return i;
                    } else if (side == 0 && "=<>#".indexOf(c) >= 0) {
                        side = 1;
                        wait = Wait.ATOM;
                    } else if (side == 2 && c == ';') {
                        wait = Wait.UNIT;
                    } else if (side == 1) {
                        strip(open, '!');
                        wait = behindUnit(c, open);
                        if (wait == null) {
                            return i;
                        }
                    } else {
                        return i;
                    }
                    break;
                case BEHIND_BRACKET:
                    wait = behindUnit(c, open);
                    if (wait == null) {
                        return i;
                    }
                    break;
                case VERDICT:
                    if ("gwvc".indexOf(c) < 0) {
                        return i;
                    }
                    side = 2;
                    wait = c == 'v' ? Wait.NUMBER : c == 'c' ? Wait.ATOM : Wait.BEHIND_VERDICT;
                    break;
                case NUMBER:
                    if (!figure) {
                        return i;
                    }
                    figures = 1;
                    wait = Wait.BEHIND_VERDICT;
                    break;
                default:
                    if (c != ';') {
                        return i;
                    }
                    wait = Wait.UNIT;
            }
        }
        boolean ended = wait == Wait.BEHIND_VERDICT || wait == Wait.BEHIND_ATOM && side == 2 && open.length() == 0;
        return ended ? -1 : text.length();
    }

    private static void strip(StringBuilder open, char sign) {
        while (open.length() > 0 && open.charAt(open.length() - 1) == sign) {
            open.setLength(open.length() - 1);
        }
    }

    private static Wait behindUnit(char c, StringBuilder open) {
        if (c == '&' || c == '|') {
            return Wait.UNIT;
        }
        if (c == '?' && open.length() == 0) {
            return Wait.VERDICT;
        }
        if (c == ')' && open.length() > 0) {
            open.setLength(open.length() - 1);
            strip(open, '!');
            return Wait.BEHIND_BRACKET;
        }
        return null;
    }
}
