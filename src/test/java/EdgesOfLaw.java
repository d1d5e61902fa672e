/** Sentence by sentence of the document's "Terms", part 1, the law: ends, what is beside them, empty and full. */
public final class EdgesOfLaw extends Due {
    public static void main(String[] args) {
        sentence = "THE TAPE (at most 120 bytes)"; tape();
        sentence = "LINES, one or more, parted by ;"; lines();
        sentence = "E, or E ? E"; asked();
        sentence = "B = S, or S < S, S = S, S > S"; compared();
        sentence = "a number (1 to 4 digits)"; digits();
        sentence = "a NAME"; names();
        sentence = "No blanks"; blanks();
        sentence = "At most 6 of ( ! - ahead of an O are open at once"; open();
        sentence = "Ints that wrap"; wraps();
        sentence = "/ and % toward 0, by 0 they give 0"; divided();
        sentence = "| & < = > ! give 1, 0"; truths();
        sentence = "The first LINE without a first E, or whose first E is not 0, counts; none: 0"; counts();
        sentence = "FAULT: the first byte with which no TEXT goes on; the length, if it ends too early"; faults();
        sentence = "held within 0 .. d by 2, cut"; held();
        sentence = "Without a text d by (t and 1) by 6, and o more (each cut)"; lawless();
        end();
    }

    /** What a text gives through wall 13, of 5 and 6, 80 and 20 warm: right as long as it is 0 .. 30. */
    private static void worth(String text, int want) {
        SixWalls x = warmer(60);
        due(text, tell(x, text), 1);
        due("worth of " + text, x.of(13, 15), want);
    }

    private static void so(String text) {
        worth(text, 1);
        worth("!(" + text + ")", 0);
    }

    private static void fault(String text, int place) {
        SixWalls x = new SixWalls();
        due("law " + text, tell(x, text), -100 - place);
        due("bytes on THE TAPE behind " + text, x.count(3), 0);
    }

    private static void good(String text) {
        SixWalls x = new SixWalls();
        due("law " + text, tell(x, text), 1);
        due("bytes on THE TAPE behind " + text, x.count(3), 0);
    }

    private static void tape() {
        bounds("feed", 0, 255, BAD, SixWalls::feed);
        String most = "30" + "+0".repeat(59);
        SixWalls x = warmer(60);
        for (int n = 0; n < 120; n++) due("feed", x.feed(most.charAt(n)), n + 1);
        due("one more", x.feed('+'), FULL);
        due("BAD is named ahead of FULL", x.feed(256), BAD);
        due("BAD is named ahead of FULL", x.feed(-1), BAD);
        due("how many", x.count(3), 120);
        due("a text of 120 bytes", x.law(), 1);
        due("its worth", x.of(13, 15), 30);
        due("THE TAPE is empty then", x.count(3), 0);
        due("and takes bytes", x.feed('7'), 1);
        due("a text of one byte", x.law(), 1);
        due("its worth", x.of(13, 15), 7);
        due("no byte", x.law(), -100);
        due("the law stays", x.of(13, 15), 7);
        fault("9" + "+0".repeat(59) + "+", 120);
        fault("9" + "+0".repeat(59) + ")", 119);
        for (int n = 0; n < 120; n++) x.feed(';');
        due("FULL", x.feed(0), FULL);
        due("a fault", x.law(), -100);
        due("THE TAPE is empty then, too", x.count(3), 0);
        due("the law stays", x.of(13, 15), 7);
        first();
        worth("-9" + "-9".repeat(3) + "+1".repeat(56), 20);
        worth("-9" + ";9".repeat(59), 0);
        worth("0?9;".repeat(29) + "-1+9", 8);
    }

    /** A law that is the first one of its comb; what has a fault, however late, leaves it. */
    private static void first() {
        SixWalls x = new SixWalls();
        x.mend(5, 0, 9);
        x.days(1);
        due("29 and 20 through THICK 3, without a text", x.of(13, 15), 0);
        due("a fault ahead of the first law", tell(x, "d/3+1+"), -106);
        due("still without a text", x.of(13, 15), 0);
        due("the first law", tell(x, "d/3"), 1);
        due("by it", x.of(13, 15), 3);
        due("a late fault", tell(x, "1+1+1+1+1+1;2?3;4?5)"), -119);
        due("by the first, still", x.of(13, 15), 3);
        due("a longer law", tell(x, "0?1;0?2;2*3-2"), 1);
        due("by it", x.of(13, 15), 4);
        due("a fault", tell(x, "d?"), -102);
        due("by the longer one, still", x.of(13, 15), 4);
        due("a shorter law", tell(x, "2"), 1);
        due("by it", x.of(13, 15), 2);
        firstOfAll();
    }

    /** 121 signs to work out in 120 bytes are the most there can be: as the first law, and as each one behind it. */
    private static void firstOfAll() {
        SixWalls x = new SixWalls();
        String lines = "-1" + ";1".repeat(59);
        for (int n = 0; n < 3; n++) due("the fullest text, law " + n, tell(x, lines), 1);
        SixWalls y = new SixWalls();
        y.mend(5, 0, 9);
        y.days(1);
        due("the longest way to a line that counts", tell(y, "0?1;".repeat(29) + "-1+3"), 1);
        due("by it", y.of(13, 15), 2);
        due("behind it", tell(y, "0?1;".repeat(29) + "0?-3"), 1);
        due("none counts", y.of(13, 15), 0);
    }

    private static void lines() {
        good("d");
        good("d;t");
        good("d;".repeat(59) + "t");
        worth("0?1;".repeat(29) + "9?8", 8);
        fault("d;".repeat(60), 120);
        fault(";", 0);
        fault(";d", 0);
        fault("d;;d", 2);
        fault("d;", 2);
        fault("d;t;", 4);
    }

    private static void asked() {
        good("d?t");
        good("d|t?o&a");
        good("d?t|o");
        good("d|t?o|a;d|t?o|a");
        worth("1?0|2;7", 1);
        worth("0?1;1?0|2", 1);
        good("d?t;o?a;b");
        fault("?", 0);
        fault("?d", 0);
        fault("d?", 2);
        fault("d??t", 2);
        fault("d?;t", 2);
        fault("d?t?o", 3);
        fault("(d?t)", 2);
        fault("(d;t)", 2);
    }

    private static void compared() {
        for (char sign : "<=>".toCharArray()) {
            good("d" + sign + "t");
            good("(d" + sign + "t)" + sign + "o");
            good("d" + sign + "t|d" + sign + "t&d" + sign + "t");
            for (char next : "<=>".toCharArray()) {
                fault("d" + sign + "t" + next + "o", 3);
                fault("d" + sign + next + "t", 2);
            }
        }
        so("3+4>6&2*3=6");
        so("1|0&0");
        so("2+3*4=14");
        so("7-2-1=4");
        so("64/4/2=8");
        so("17%9%5=3");
        so("7-5+1=3");
        so("5*7/2=17");
        so("(2&3<1)=0");
    }

    private static void digits() {
        good("0");
        good("9999");
        good("0000");
        fault("12345", 4);
        fault("00000", 4);
        fault("d+99999", 6);
        fault("1d", 1);
        fault("1(d)", 1);
        so("0009=9");
        so("9999>9998");
        so("1000=10*100");
    }

    private static void names() {
        for (int c = 0; c < 256; c++) {
            SixWalls x = new SixWalls();
            x.feed(c);
            boolean one = "dtoab0123456789".indexOf(c) >= 0;
            boolean begins = c == '(' || c == '!' || c == '-';
            due("the byte " + c + " alone", x.law(), one ? 1 : begins ? -101 : -100);
            x.feed('d');
            x.feed(c);
            boolean joins = ";?|&<=>+-*/%".indexOf(c) >= 0;
            due("d and the byte " + c, x.law(), joins ? -102 : -101);
        }
        worth("a", 30);
        worth("b", 20);
        so("a=80&b=20&d=60");
        so("a-b=d");
        worth("t", 3);
        worth("o", 0);
        SixWalls x = warmer(60);
        x.mend(13, 2, 9);
        x.mend(13, 3, 1);
        tell(x, "t*2+o");
        due("THICK 9, a DOOR", x.of(13, 15), 19);
        x.mend(13, 2, 0);
        due("THICK 0, a DOOR", x.of(13, 15), 1);
        due("from the greater", x.of(4, 15), -6);
        tell(x, "a/8+b/20");
        due("a is the warmer one, from 5 to 6", x.of(13, 15), 11);
        due("a is the warmer one, from 1 to 5", x.of(4, 15), -11);
    }

    private static void blanks() {
        for (char c : " \t\n\r\0\u00a0".toCharArray()) {
            fault(c + "d", 0);
            fault("d" + c, 1);
            fault("d" + c + "+t", 1);
            fault("d+" + c + "t", 2);
            fault("(" + c + "d)", 1);
            fault("1" + c + "2", 1);
            fault("d;" + c + "t", 2);
        }
    }

    private static void open() {
        good("((((((d))))))");
        good("!!!!!!d");
        good("------d");
        good("(!-(!-d))");
        fault("(((((((d)))))))", 6);
        fault("!!!!!!!d", 6);
        fault("-------d", 6);
        fault("(!-(!-(d)))", 6);
        fault("(!-(!--d))", 6);
        fault("((((((", 6);
        fault("(((((((", 6);
        // closed behind its O, or by its ) : six more may be open then
        good("((((((d))))))+((((((d))))))");
        good("!!!!!!d+!!!!!!d");
        good("(!!!!!d+!!!!!d)");
        fault("(!!!!!d+!!!!!!d)", 13);
        good("d-------d");
        fault("d--------d", 8);
        good("((((((d+d)+d)+d)+d)+d)+d)");
        good("((((((d)))+(((d))))))");
        fault("((((((d)))+((((d)))))))", 14);
        good("((((((d))))));------d?!!!!!!d");
        fault("(((((((d)))))))?d", 6);
        fault("d?(((((((d)))))))", 8);
        fault("d;(((((((d)))))))", 8);
        fault("d;d?-------d", 10);
        fault("------d;!!!!!!d?(((((((d", 22);
        worth("------5", 5);
        worth("-----5", 0);
        worth("!!!!!!5", 1);
        worth("!!!!!5", 0);
        worth("((((((5))))))", 5);
    }

    private static void wraps() {
        // 8192 * 8192 * 32 is 2 to the 31st
        so("8192*8192*32<0");
        so("8192*8192*32-1>0");
        so("8192*8192*32=-8192*8192*32");
        so("-(8192*8192*32)<0");
        so("8192*8192*64=0");
        so("(8192*8192*32-1)+1<0");
        so("(8192*8192*32-1)+(8192*8192*32-1)=-2");
        int most = 9999 * 9999 * 9999;
        so("9999*9999*9999%9973=" + most % 9973);
        so("9999*9999*9999/9999=" + most / 9999 / 100 + "*100+" + most / 9999 % 100);
        so("-(8192*8192*32)-1>0");
    }

    private static void divided() {
        so("7/2=3");
        so("-7/2=-3");
        so("7/-2=-3");
        so("-7/-2=3");
        so("-1/2=0");
        so("7%4=3");
        so("-7%4=-3");
        so("7%-4=3");
        so("-7%-4=-3");
        so("5/0=0");
        so("-5/0=0");
        so("0/0=0");
        so("5%0=0");
        so("-5%0=0");
        so("5/(t-3)=0");
        so("5%(t-3)+1=1");
        so("5%1=0");
        so("8192*8192*32/-1=8192*8192*32");
        so("8192*8192*32%-1=0");
    }

    private static void truths() {
        String[] ones = {"2|0", "0|2", "-1|-1", "3&-4", "1&1", "!0", "!!5", "!!-5", "1<2", "-1<0", "2=2", "2>1", "0>-1"};
        String[] none = {"0|0", "3&0", "0&3", "0&0", "!1", "!5", "!-1", "2<2", "3<2", "2=3", "2>2", "1>2"};
        for (String text : ones) so("(" + text + ")=1");
        for (String text : none) so("(" + text + ")=0");
        so("!0+1=2");
        so("-!0=-1");
    }

    private static void counts() {
        worth("5", 5);
        worth("5;6", 5);
        worth("0;6", 0);
        worth("1?5;6", 5);
        worth("-1?5;6", 5);
        worth("0?5;6", 6);
        worth("0?5;0;7", 0);
        worth("0?5;0?6;7", 7);
        worth("0?5;2?6;7", 6);
        worth("1?0;7", 0);
        worth("0?5", 0);
        worth("0?5;0?6", 0);
        worth("0|1?5;6", 5);
        worth("1-1?5;6", 6);
    }

    private static void faults() {
        fault("", 0);
        String[] early = {"d+", "d-", "d*", "d/", "d%", "d<", "d=", "d>", "d|", "d&", "d?", "d;", "(", "!", "-", "(d", "((d)",
            "d+(", "d+!", "d+-", "d;(d", "d?(d+"};
        for (String text : early) fault(text, text.length());
        // with the last byte no text goes on, whatever comes behind it
        String[] last = {")", "*", "d)", "d(", "d!", "dd", "d1", "1d", "()", "(d))", "d+*", "d+)", "d+;", "d+?", "(d;", "(d?",
            "d<t<", "d?t?", "d;?", "d;)", "!)", "-+", "d++", "d?!?", "x", "d+x", "c", "D", "d,", "\u00ff", "d\u00ff", "(d+t)(", "(d)d"};
        for (String text : last) {
            fault(text, text.length() - 1);
            fault(text + "d", text.length() - 1);
            fault(text + ")", text.length() - 1);
            fault(text + ";d", text.length() - 1);
        }
    }

    private static void held() {
        for (int d = 0; d < 8; d++) {
            SixWalls x = warmer(d);
            String[] laws = {"9999", "d", "d/2", "d/2+1", "8192*8192*32-1"};
            for (String law : laws) {
                tell(x, law);
                due(law + " by " + d, x.of(13, 15), d / 2);
                due(law + " by " + d + " to 5", x.of(4, 15), -(d / 2));
            }
            String[] none = {"0", "-1", "-9999", "8192*8192*32", "-d"};
            for (String law : none) {
                tell(x, law);
                due(law + " by " + d, x.of(13, 15), 0);
            }
            tell(x, "d/2-1");
            due("d/2-1 by " + d, x.of(13, 15), Math.max(0, d / 2 - 1));
            tell(x, "1");
            due("1 by " + d, x.of(13, 15), d < 2 ? 0 : 1);
        }
    }

    /** Behind walls of THICK 9 none goes below a difference of 60, so that no law is needed to keep warmths apart. */
    private static SixWalls thickly(int d) {
        SixWalls x = new SixWalls();
        x.mend(0, 5, 0);
        for (int w = 0; w < 33; w++) if (x.of(w, 13) / 100 == 5 || x.of(w, 13) % 100 == 5) x.mend(w, 2, 9);
        heat(x, 5, d);
        due("made warmer", x.of(5, 2), 20 + d);
        return x;
    }

    private static void lawless() {
        // d, THICK, DOOR, how much
        int[][] all = {{23, 3, 0, 0}, {24, 3, 0, 1}, {47, 3, 0, 1}, {48, 3, 0, 2}, {5, 0, 0, 0}, {6, 0, 0, 1}, {11, 0, 0, 1}, {12, 0, 0, 2},
            {59, 9, 0, 0}, {60, 9, 0, 1}, {60, 0, 0, 10}, {60, 0, 1, 11}, {60, 9, 1, 2}, {59, 9, 1, 1}, {24, 3, 1, 2}, {23, 3, 1, 1},
            {0, 0, 1, 0}, {1, 0, 1, 0}, {2, 0, 1, 1}, {2, 9, 1, 1}, {3, 0, 1, 1}, {4, 0, 1, 1}, {6, 0, 1, 2}};
        for (int[] one : all) {
            SixWalls x = thickly(one[0]);
            x.mend(13, 2, one[1]);
            x.mend(13, 3, one[2]);
            x.mend(4, 2, one[1]);
            x.mend(4, 3, one[2]);
            String at = "d " + one[0] + ", t " + one[1] + ", o " + one[2];
            due(at, x.of(13, 15), one[3]);
            due(at + ", to 5", x.of(4, 15), -one[3]);
        }
    }
}
