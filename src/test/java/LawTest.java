/** Promises 13 to 18: the tape, its faults, laws and letters. */
public final class LawTest {
    public static void main(String[] args) {
        fed();
        cut();
        faults();
        blanks();
        nested();
        laws();
        lawBounds();
        lawful();
        letters();
        sums();
        conditions();
        Due.end("LawTest");
    }

    private static void fed() {
        PostVotes x = new PostVotes();
        Due.is("feed nothing", x.feed(0, 0, 0, 0, 0), 0);
        Due.is("feed bytes in order", x.feed(0x313D0031, 0, 0x3F00, 0, 0x67), 5);
        Due.is("1=1?g stands", x.fault(), -1);
        Due.is("count(10)", x.count(10), 5);
        x.end(0);
        int many = 0x41414141;
        for (int i = 1; i <= 9; i++) {
            Due.is("feed " + i, x.feed(many, many, many, many, many), 20 * i);
        }
        Due.is("feed negative numbers", x.feed(-1, -1, -1, -1, 0xFF000000), 197);
        Due.is("feed four more", x.feed(many, 0, 0, 0, 0), -1);
        Due.is("refused feed leaves the tape", x.count(10), 197);
        Due.is("feed three more", x.feed(0, many & 0xFF00FFFF, 0, 0, 0), 200);
        Due.is("feed one more", x.feed(0, 0, 0, 0, 1), -1);
        Due.is("feed nothing more", x.feed(0, 0, 0, 0, 0), 200);
        int[][] single = {{many, 0, 0, 0, 0}, {0, many, 0, 0, 0}, {0, 0, many, 0, 0}, {0, 0, 0, many, 0}, {0, 0, 0, 0, many}};
        for (int[] row : single) {
            x.end(197);
            Due.is("four bytes more, wherever", x.feed(row[0], row[1], row[2], row[3], row[4]), -1);
            x.end(196);
            Due.is("four bytes more that fit", x.feed(row[0], row[1], row[2], row[3], row[4]), 200);
        }
    }

    private static void cut() {
        PostVotes x = new PostVotes();
        Due.yes("end(0) of nothing", x.end(0));
        Due.no("end(1) of nothing", x.end(1));
        Due.feed(x, "1=1?g;x");
        Due.is("fault at the end", x.fault(), 7);
        Due.no("end(-1)", x.end(-1));
        Due.no("end(8)", x.end(8));
        Due.yes("end(7)", x.end(7));
        Due.yes("end(5)", x.end(5));
        Due.is("count(10)", x.count(10), 5);
        Due.is("no fault", x.fault(), -1);
        Due.no("end does not bring back", x.end(6));
    }

    private static void faults() {
        PostVotes x = new PostVotes();
        String[] right = {"1=1?g", "1=1?w", "1=1?v0", "1=1?v9999", "1=1?c0", "1=1?cx-1*[2+3]", "t<o?g;m>c?w;x#l?v1", "f=p?g", "r=b?g", "i=s?g",
            "y=z?g", "n=e?g", "k=0?g", "0000=1?g", "(1=1)?g", "!1=1&!(t=1|t=2)?g", "[1]=--1?g", "1*-1+-[2]=3?g", "c=1?cc"};
        for (String text : right) {
            Due.is("fault of " + text, Due.fault(x, text), -1);
        }
        Object[][] wrong = {{"", 0}, {"1", 1}, {"1=", 2}, {"1=1", 3}, {"1=1?", 4}, {"1=1?v", 5}, {"1=1?c", 5}, {"1=1?g;", 6},
            {"g", 0}, {"1=1?x", 4}, {"1=1?g;g", 6}, {"1=1?gg", 5}, {"1=1?g1", 5}, {"1=1?v12345", 9}, {"1=1?v-1", 5}, {"1=1?vt", 5},
            {"12345=1?g", 4}, {"00000=1?g", 4}, {"1=1=1?g", 3}, {"1?g", 1}, {"1&1=1?g", 1}, {"(1=1", 4}, {"(1=1?g", 4}, {"(1)=1?g", 2},
            {"[1=1]?g", 2}, {"[1", 2}, {"1]=1?g", 1}, {"1=1)?g", 3}, {"!?g", 1}, {"1+=1?g", 2}, {"1+*1=1?g", 2}, {"+1=1?g", 0}, {"1=!1?g", 2},
            {"1=1&?g", 4}, {"1=1|?g", 4}, {"1=1||1=1?g", 4}, {"A=1?g", 0}, {"a=1?g", 0}, {"v=1?g", 0}, {"w=1?g", 0}, {"1t=1?g", 1},
            {"t1=1?g", 1}, {"tt=1?g", 1}, {"1==1?g", 2}, {"1=1??g", 4}, {";1=1?g", 0}, {"1=1;", 3}, {"1=1?c1=1", 6}, {"1=1?c(1)", 5},
            {"1=1?c5 5", 7}, {"1=1?g\t", 5}, {"1=1?g\u0001", 5}, {"\u00011=1?g", 0}, {"\u00E9", 0}, {"1\u00B2=1?g", 1}, {"[!1]=1?g", 1}, {"1=(1)?g", 2}, {"-", 1}, {"-=1?g", 1}, {"!", 1}};
        for (Object[] row : wrong) {
            Due.is("fault of " + row[0], Due.fault(x, (String) row[0]), (Integer) row[1]);
        }
    }

    private static void blanks() {
        PostVotes x = new PostVotes();
        Due.is("blanks between all", Due.fault(x, "! ( 1 + 2 * [ t ] = - 3 & x # 1 | n > 2 ) ? v 12 ; 1 < 2 ? c x ; k = 1 ? w"), -1);
        Due.is("blank within a number", Due.fault(x, "1 2=1?g"), 2);
        Due.is("blank within a reason", Due.fault(x, "1=1?v1 2"), 7);
        Due.is("ends behind a blank", Due.fault(x, "1=1 "), 4);
        Due.is("fault behind blanks", Due.fault(x, "1=1   x"), 6);
    }

    private static void nested() {
        PostVotes x = new PostVotes();
        Due.is("eight (", Due.fault(x, "((((((((1=1))))))))?g"), -1);
        Due.is("nine (", Due.fault(x, "(((((((((1=1)))))))))?g"), 8);
        Due.is("eight [", Due.fault(x, "[[[[[[[[1]]]]]]]]=1?g"), -1);
        Due.is("nine [", Due.fault(x, "[[[[[[[[[1]]]]]]]]]=1?g"), 8);
        Due.is("eight -", Due.fault(x, "--------1=1?g"), -1);
        Due.is("nine -", Due.fault(x, "---------1=1?g"), 8);
        Due.is("nine - in a verdict", Due.fault(x, "1=1?c---------1"), 13);
        Due.is("eight - behind a -", Due.fault(x, "1---------1=1?g"), -1);
        Due.is("nine - behind a -", Due.fault(x, "1----------1=1?g"), 10);
        Due.is("eight of all", Due.fault(x, "!(!([-[-1]]=1))?g"), -1);
        Due.is("nine of all", Due.fault(x, "!(!([-[-[-1]]]=1))?g"), 8);
        Due.is("eight twice", Due.fault(x, "!!!!!!!!1=1&!!!!!!!!1=1|((((((((1=1))))))))?g;!!!!!!!!1=1?w"), -1);
        Due.is("! then - too deep", Due.fault(x, "!!!!!!!!-1=1?g"), 8);
        Due.is("! then ( too deep", Due.fault(x, "!!!!!!!!(1=1)?g"), 8);
        Due.is("! then [ on the other side", Due.fault(x, "!!!!!!!!1=[1]?g"), 10);
    }

    private static void laws() {
        PostVotes x = new PostVotes();
        Due.is("law of an empty tape", x.law(0, 0), -1);
        Due.feed(x, "1=1?");
        Due.is("law with a fault", x.law(0, 0), -1);
        Due.is("the tape stays", x.count(10), 4);
        Due.feed(x, "g");
        Due.is("law shire 4", x.law(4, 0), -1);
        Due.is("law shire -1", x.law(-1, 0), -1);
        Due.is("law day -1", x.law(0, -1), -1);
        Due.is("law day 401", x.law(0, 401), -1);
        Due.is("the tape stays yet", x.count(10), 5);
        Due.is("law", x.law(3, 400), 0);
        Due.is("the tape is empty then", x.count(10), 0);
        Due.is("count(5)", x.count(5), 1);
        Due.is("in force on 400", x.lawful(3, 400, 0), 0);
        Due.is("not on 399", x.lawful(3, 399, 0), -1);
        Due.is("not elsewhere", x.lawful(2, 400, 0), -1);
    }

    private static void lawBounds() {
        PostVotes x = new PostVotes();
        for (int i = 0; i < 30; i++) {
            Due.is("law " + i, Due.law(x, 0, "1=1?g"), i);
        }
        Due.is("law 31st", Due.law(x, 0, "1=1?g"), -1);
        Due.is("the tape stays", x.count(10), 5);
        Due.is("30 laws", x.count(5), 30);
        PostVotes y = new PostVotes();
        StringBuilder text = new StringBuilder("1=2?v1");
        while (text.length() < 192) {
            text.append(";1=2?w");
        }
        text.append(";1=1?g");
        for (int i = 0; i < 40; i++) {
            Due.is("fault asked again", Due.fault(y, i % 2 == 0 ? "[1+2]*3-4=5+6&7#8&" : text.toString()), i % 2 == 0 ? 18 : -1);
        }
        Due.is("a law of 198 bytes", Due.law(y, 0, text.toString()), 0);
        y.voter(0, 0, 0);
        y.send(0, 0, 0);
        y.event(0, 2, 0, 0);
        Due.is("its last rule", y.ruled(0, 0), 32);
    }

    private static void lawful() {
        PostVotes x = new PostVotes();
        Due.law(x, 1, "1=1?g");
        x.days(2);
        Due.feed(x, "1=1?w");
        x.law(1, 10);
        Due.feed(x, "1=1?v1");
        x.law(1, 5);
        Due.is("day 4", x.lawful(1, 4, 2), 0);
        Due.is("day 5", x.lawful(1, 5, 2), 2);
        Due.is("day 9", x.lawful(1, 9, 2), 2);
        Due.is("day 10", x.lawful(1, 10, 2), 1);
        Due.is("day 10 as known in 1", x.lawful(1, 10, 1), 0);
        Due.feed(x, "1=1?v2");
        x.law(1, 10);
        Due.is("of one day the one told last", x.lawful(1, 400, 2), 3);
        Due.is("lawful shire -1", x.lawful(-1, 0, 0), -1);
        Due.is("lawful shire 4", x.lawful(4, 0, 0), -1);
        Due.is("lawful day -1", x.lawful(1, -1, 0), -1);
        Due.is("lawful day 401", x.lawful(1, 401, 0), -1);
        Due.is("lawful q -1", x.lawful(1, 0, -1), -1);
        Due.is("lawful q 3", x.lawful(1, 0, 3), -1);
    }

    private static void letters() {
        PostVotes x = new PostVotes();
        Due.law(x, 0, "1=1?g");
        x.voter(0, 7, 0);
        x.days(20);
        x.send(0, 3, 0);
        x.send(0, 4, 0);
        x.send(0, 5, 0);
        String all = "tomcxlfprbisyznek";
        int[] fresh = {20, 3, -1, -1, -1, -1, -1, -1, -1, -1, 0, 9, 0, 0, 0, 3, 7};
        for (int i = 0; i < all.length(); i++) {
            Due.is("fresh " + all.charAt(i), Due.letter(x, 0, all.charAt(i), 20), fresh[i]);
        }
        for (int letter = -2; letter < 400; letter++) {
            if (letter < 0 || all.indexOf(letter) < 0) {
                Due.is("no letter " + letter, Due.letter(x, 0, letter, 20), -1000);
            }
        }
        Due.is("no letter behind the chars", Due.letter(x, 0, 65536 + 't', 20), -1000);
        Due.is("letter envelope 3", Due.letter(x, 3, 't', 20), -1000);
        Due.is("letter envelope -1", Due.letter(x, -1, 't', 20), -1000);
        Due.is("letter q 21", Due.letter(x, 0, 't', 21), -1000);
        Due.is("letter q -1", Due.letter(x, 0, 't', -1), -1000);
        Due.is("letter ahead of its telling", Due.letter(x, 0, 't', 19), -1000);
        x.event(2, 2, 8, 0);
        x.event(1, 2, 8, 0);
        x.event(0, 2, 9, 0);
        Due.is("n by number", Due.letter(x, 1, 'n', 20), 0);
        Due.is("n of one day", Due.letter(x, 2, 'n', 20), 1);
        Due.is("n by days", Due.letter(x, 0, 'n', 20), 2);
        x.event(0, 4, 1, 0);
        Due.is("n of one that does not come", Due.letter(x, 0, 'n', 20), 0);
        x.days(1);
        x.send(0, 21, 0);
        Due.is("e now", Due.letter(x, 0, 'e', 21), 4);
        Due.is("e as known before", Due.letter(x, 0, 'e', 20), 3);
    }

    /** A sum is what is due if it is that, less than one more and more than one less. */
    private static void sums() {
        Object[][] sums = {{"1+2*3", 7}, {"[1+2]*3", 9}, {"9-2-3", 4}, {"9-[2-3]", 10}, {"2*3*4", 24}, {"-2*-3", 6}, {"--5", 5}, {"1--1", 2},
            {"9999*9999-9999*9999", 0}, {"9999*9999-[999*999+1998]", 1}, {"9999*9999+1-999*999-1999", 0}, {"-9999*9999+999*999+1999+5", 5},
            {"-9999*9999-1+999*999+1999", 0}, {"[9999*9999]*[9999*9999]-999*999-1999", 0}, {"-[9999*9999]*[9999*9999]+999*999+1999", 0},
            {"0012", 12}, {"t-t+k", 7}, {"o+e", 1}, {"s*s", 81}, {"9999*100+99*1+1*1-9999*100", 100}};
        for (Object[] row : sums) {
            PostVotes x = new PostVotes();
            x.voter(0, 7, 0);
            Due.is("law " + row[0], Due.law(x, 0, row[0] + "=" + row[1] + "&" + row[0] + "<" + row[1] + "+1&" + row[0] + ">" + row[1] + "-1?g"), 0);
            x.send(0, 0, 0);
            x.event(0, 2, 0, 0);
            Due.is("state by " + row[0], x.state(0, 0), 2);
        }
    }

    private static void conditions() {
        Object[][] conditions = {{"1=1", 1}, {"1=2", 0}, {"1<2", 1}, {"2<2", 0}, {"3<2", 0}, {"2>1", 1}, {"2>2", 0}, {"1>2", 0}, {"1#2", 1}, {"2#2", 0},
            {"!1=1", 0}, {"!1=2", 1}, {"!!1=1", 1}, {"1=1&1=1", 1}, {"1=1&1=2", 0}, {"1=2&1=1", 0}, {"1=1|1=2", 1}, {"1=2|1=1", 1}, {"1=2|1=2", 0},
            {"1=1|1=1&1=2", 1}, {"(1=1|1=1)&1=2", 0}, {"1=2&1=1|1=1", 1}, {"!1=2&1=2", 0}, {"!(1=2&1=2)", 1}, {"!1=1|1=1", 1}, {"!(1=1|1=1)", 0},
            {"-1<0", 1}, {"1#2&1=1", 1}, {"!1=2&1=1", 1}, {"1<2&2>1&!1=2&1#0", 1}, {"t=0", 1}, {"t=-1", 0}, {"1=1&1=1&1=2", 0}, {"1=2|1=2|1=1", 1}};
        for (Object[] row : conditions) {
            PostVotes x = new PostVotes();
            x.voter(0, 0, 0);
            Due.law(x, 0, row[0] + "?g");
            x.send(0, 0, 0);
            x.event(0, 2, 0, 0);
            Due.is("state by " + row[0], x.state(0, 0), (Integer) row[1] == 1 ? 2 : 4);
        }
    }
}
