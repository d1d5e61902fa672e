/** Promise by promise: ordinary calls, the edges that the document names, and wrong calls. */
public final class Promises {
    private static final int VOID = SixWalls.VOID, BAD = -1, NOT = -2, FULL = -3, STATE = -5;
    private static final int MIN = Integer.MIN_VALUE, MAX = Integer.MAX_VALUE;
    private static int wrong = 0;
    private static String promise = "";

    private static void due(String call, long got, long want) {
        if (got == want) return;
        wrong++;
        System.out.println(promise + ": " + call + " answered " + got + ", due is " + want);
    }

    public static void main(String[] args) {
        promise = "1 new"; newObject();
        promise = "2 wall"; wall();
        promise = "3 mend"; mend();
        promise = "4 of"; of();
        promise = "5 fires"; fires();
        promise = "6 feed"; feed();
        promise = "7 law"; law();
        promise = "8 warmth"; warmth();
        promise = "9 cold"; cold();
        promise = "10 still"; still();
        promise = "11 gave"; gave();
        promise = "12 leastFire"; leastFire();
        promise = "13 days"; days();
        promise = "14 led"; led();
        promise = "15 rounds"; rounds();
        promise = "16 way"; way();
        promise = "17 doors"; doors();
        promise = "18 opened"; opened();
        promise = "19 heard"; heard();
        promise = "20 whose"; whose();
        promise = "21 colours"; colours();
        promise = "22 paint"; paint();
        promise = "23 empty"; empty();
        promise = "24 takes"; takes();
        promise = "25 where"; where();
        promise = "26 years"; years();
        promise = "27, 28 image, back"; imageAndBack();
        promise = "29, 30 undo, redo"; undoAndRedo();
        promise = "31 body"; body();
        promise = "32, 33 act, trace"; actAndTrace();
        promise = "34 keep"; keep();
        promise = "35 row"; row();
        promise = "36, 37 put, element"; putAndElement();
        promise = "38 shift"; shift();
        promise = "39 taken"; taken();
        promise = "40 count"; count();
        System.out.println(wrong == 0 ? "all promises hold" : wrong + " answers are not as due");
        if (wrong != 0) System.exit(1);
    }

    private static int tell(SixWalls x, String law) {
        for (int i = 0; i < law.length(); i++) x.feed(law.charAt(i));
        return x.law();
    }

    /** No heat goes through walls, and there is no cold: each house warms by its own fire. */
    private static SixWalls apart() {
        SixWalls x = new SixWalls();
        tell(x, "0");
        x.mend(0, 5, 0);
        return x;
    }

    private static void newObject() {
        SixWalls x = new SixWalls();
        for (int h = 0; h < 16; h++) {
            due("FIRE", x.of(h, 0), 0);
            due("WANT", x.of(h, 1), 4);
            due("WARMTH", x.of(h, 2), 20);
            due("LIVED IN", x.of(h, 3), 1);
            due("loads", x.of(h, 5), 3 * x.of(h, 4));
        }
        for (int w = 0; w < 33; w++) {
            due("THICK", x.of(w, 10), 3);
            due("DOOR", x.of(w, 11), 0);
            due("COLOUR", x.of(w, 12), 0);
            due("AGREED", x.of(w, 14), 4);
        }
        due("COLD", x.of(0, 20), 2);
        due("BEAR", x.of(0, 21), 30);
        int[] counts = {16, 0, 0, 0, 0, 0, 0};
        for (int i = 0; i < 7; i++) due("count " + i, x.count(i), counts[i]);
        due("element of a bare shelf", x.element(0, 0), Long.MIN_VALUE);
    }

    private static void wall() {
        SixWalls x = new SixWalls();
        int[] all = {1, 4, 102, 104, 105, 203, 205, 206, 306, 307, 405, 408, 409, 506, 509, 510, 607, 610, 611, 711,
            809, 812, 910, 912, 913, 1011, 1013, 1014, 1114, 1115, 1213, 1314, 1415};
        due("how many", all.length, 33);
        int n = 0;
        for (int ab = 0; ab < 1616; ab++) {
            if (ab % 100 > 15) continue;
            int a = ab / 100;
            int b = ab % 100;
            if (n < 33 && all[n] == ab) {
                due("wall " + ab, x.wall(ab), n);
                due("wall " + b + ", " + a, x.wall(100 * b + a), n);
                n++;
            } else if (a < b) due("wall " + ab, x.wall(ab), NOT);
            else if (a == b) due("wall " + ab, x.wall(ab), BAD);
        }
        int[] none = {-1, 16, 99, 1600, 1601, 1516, 100000, MIN, MAX, -101};
        for (int ab : none) due("wall " + ab, x.wall(ab), BAD);
    }

    private static void mend() {
        SixWalls x = new SixWalls();
        int[] mosts = {9, 9, 9, 1, 5, 9, 54};
        int[] firsts = {0, 4, 3, 0, 0, 2, 30};
        int[] numbers = {15, 15, 32, 32, 32, 0, 0};
        int[] asked = {0, 1, 10, 11, 12, 20, 21};
        for (int what = 0; what < 7; what++) {
            int least = what == 6 ? 6 : 0;
            int n = numbers[what];
            due("above", x.mend(n, what, mosts[what] + 1), BAD);
            due("below", x.mend(n, what, least - 1), BAD);
            due("no such number", x.mend(n + 1, what, 6), BAD);
            due("number below", x.mend(-1, what, least), BAD);
            due("still", x.of(n, asked[what]), firsts[what]);
            due("first", x.mend(n, what, mosts[what]), firsts[what]);
            due("then", x.of(n, asked[what]), mosts[what]);
            due("again", x.mend(n, what, least), mosts[what]);
            due("same", x.mend(n, what, least), least);
            due("at last", x.of(n, asked[what]), least);
        }
        due("what 7", x.mend(0, 7, 0), BAD);
        due("what -1", x.mend(0, -1, 0), BAD);
        due("changes", x.count(4), 14 - (firsts[0] == 0 ? 0 : 1));
    }

    private static void of() {
        SixWalls x = new SixWalls();
        int[] neighbours = {2, 4, 4, 3, 5, 6, 6, 3, 3, 6, 6, 5, 3, 4, 4, 2};
        for (int h = 0; h < 16; h++) due("neighbours of " + h, x.of(h, 4), neighbours[h]);
        x.mend(13, 2, 9);
        due("THICK of 5's walls", x.of(5, 5), 24);
        due("THICK of 6's walls", x.of(6, 5), 24);
        due("wall 13", x.of(13, 13), 506);
        x.mend(5, 1, 7);
        due("AGREED (7 and 4)", x.of(13, 14), 5);
        x.empty(6);
        due("AGREED of 5 alone", x.of(13, 14), 7);
        x.empty(5);
        due("AGREED of none", x.of(13, 14), 9);
        SixWalls y = apart();
        y.mend(6, 0, 9);
        y.days(5);
        due("no law lets go", y.of(13, 15), 0);
        due("law d/5", tell(y, "d/5"), 1);
        due("from the greater", y.of(13, 15), -9);
        due("from the lesser", y.of(16, 15), 9);
        int[] whats = {-1, 6, 9, 16, 19, 22, MIN, MAX};
        for (int what : whats) due("what " + what, x.of(0, what), VOID);
        for (int what = 0; what < 6; what++) {
            due("house 16", x.of(16, what), VOID);
            due("house -1", x.of(-1, what), VOID);
            due("wall 33", x.of(33, 10 + what), VOID);
            due("wall -1", x.of(-1, 10 + what), VOID);
        }
        due("number 1", x.of(1, 20), VOID);
        due("number -1", x.of(-1, 21), VOID);
    }

    private static void fires() {
        SixWalls x = new SixWalls();
        due("a bare shelf", x.fires(0, 0, 1), 0);
        x.row(0, 0, 5);
        int[] row = {3, 9, 0, 7, 10};
        for (int i = 0; i < 5; i++) x.put(0, i, row[i]);
        due("three", x.fires(0, 0, 1403 - 400), 3);
        due("house 10", x.of(10, 0), 3);
        due("house 11", x.of(11, 0), 9);
        due("house 12", x.of(12, 0), 0);
        due("house 13 not", x.of(13, 0), 0);
        due("one is not so", x.fires(0, 2, 16), 2);
        due("house 1", x.of(1, 0), 7);
        due("behind house 15", x.fires(0, 0, 1416), 2);
        due("house 15", x.of(15, 0), 9);
        due("the row ends", x.fires(0, 3, 505), 1);
        x.put(0, 4, 9);
        due("at its end", x.fires(0, 4, 505), 1);
        due("behind its end", x.fires(0, 5, 505), 0);
        due("far behind it", x.fires(0, MAX, 505), 0);
        due("ahead of it", x.fires(0, -1, 505), 0);
        x.put(0, 0, -1);
        due("below 0", x.fires(0, 0, 5), 0);
        due("no changes", x.count(4), 0);
        due("nothing to undo", x.undo(), STATE);
        int[] bad = {0, 17, 99, 100, 1600, 1601, -1, MIN, 1617, MAX};
        for (int hn : bad) due("hn " + hn, x.fires(0, 0, hn), BAD);
        due("shelf 6", x.fires(6, 0, 1), BAD);
        due("shelf -1", x.fires(-1, 0, 1), BAD);
        for (int sort = 1; sort < 5; sort++) {
            x.row(1, sort, 3);
            due("sort " + sort, x.fires(1, 0, 1), -12);
            due("BAD ahead of -12", x.fires(1, 0, 17), BAD);
        }
        x.body(0);
        x.keep(1, 0);
        due("a cell", x.fires(1, 0, 1), -12);
        x.keep(1, -1);
        due("bare again", x.fires(1, 0, 1), 0);
        x.row(1, 0, 0);
        due("no elements", x.fires(1, 0, 1), 0);
    }

    private static void feed() {
        SixWalls x = new SixWalls();
        due("-1", x.feed(-1), BAD);
        due("256", x.feed(256), BAD);
        due("0", x.feed(0), 1);
        due("255", x.feed(255), 2);
        for (int n = 3; n <= 120; n++) due("feed", x.feed('d'), n);
        due("full", x.feed('d'), FULL);
        due("bad ahead of full", x.feed(256), BAD);
        due("count", x.count(3), 120);
        due("fault", x.law(), -100);
        due("empty", x.count(3), 0);
        due("again", x.feed('d'), 1);
    }

    private static void law() {
        SixWalls x = new SixWalls();
        String[] texts = {"d", "0", "9999", "d?t", "d;t;o;a;b", "d?1;2?3;4", "((((((d))))))", "!!!!!!d", "------d", "!-(!-(d))",
            "-d+-d+-d+-d+-d+-d+-d+-d", "d|t&o<a+b*2/3%4", "(d<t)<o", "d=t|a>b", "0000", "d--t", "d-!-t"};
        for (String text : texts) due(text, tell(x, text), 1);
        String[] faults = {"", "d?", "d;", ";", "d?;", "d?t?o", "?", "12345", "1 2", "x", "dd", "d1", "1d", "(d", "()", "d)", "(d?t)",
            "(d;t)", "d+", "d+*", "d<t=o", "d!t", "!", "-", "(((((((", "!!!!!!!", "(-!(-!(d", "d\u00ff", "+d", "d?t;", "(d))", "D"};
        int[] places = {0, 2, 2, 0, 2, 3, 0, 4, 1, 0, 1, 1, 1, 2, 1, 1, 2,
            2, 2, 2, 3, 1, 1, 1, 6, 6, 6, 1, 0, 4, 3, 0};
        for (int i = 0; i < faults.length; i++) {
            due(faults[i], tell(x, faults[i]), -100 - places[i]);
            due("the tape is empty", x.count(3), 0);
        }
        // 40 warm against 20: d 20, a 40, b 20 through wall 13 with THICK 3
        SixWalls y = apart();
        y.mend(5, 0, 4);
        y.days(5);
        String[] laws = {"t", "a/8", "b/4", "o", "d-15", "d", "9999", "-1", "d-t-o-10", "d/2/2", "d%6*2", "1+2*3", "(1+2)*3", "d>19",
            "d<20", "d=20", "!d", "!!d", "--5", "2|4", "2&4", "0|0", "2&0", "d/0+4", "d%0+4", "0?5;6", "1?5;6", "0?5", "0?5;0?6;7",
            "9999*9999*9999", "1;2", "0;2", "0?1;d=20?2;3", "7-5?4;9", "-7/2+9", "-7%4+9", "1+1=2", "3>2>1|1"};
        int[] due = {3, 5, 5, 0, 5, 10, 10, 0, 7, 5, 4, 7, 9, 1,
            0, 1, 0, 1, 5, 1, 1, 0, 0, 4, 4, 6, 5, 0, 7,
            0, 1, 0, 2, 4, 6, 6, 1, 0};
        for (int i = 0; i < laws.length; i++) {
            boolean text = tell(y, laws[i]) == 1;
            due(laws[i], y.of(13, 15), text ? due[i] : due[i - 1]);
        }
        due("9999 to the fifth", tell(y, "9999*9999*9999*9999*9999"), 1);
        int wraps = 9999 * 9999 * 9999 * 9999 * 9999;
        due("wraps", y.of(13, 15), Math.max(0, Math.min(10, wraps)));
        due("a fault leaves the law", tell(y, "t;"), -102);
        due("as it was", y.of(13, 15), Math.max(0, Math.min(10, wraps)));
        due("five digits", tell(y, "(0-32768)<0?3;4"), -100 - 7);
        due("the least int by -1", tell(y, "-(8192*8192*32)/-1<0?3;4"), 1);
        due("wraps", y.of(13, 15), 3);
    }

    private static void warmth() {
        SixWalls x = new SixWalls();
        due("now", x.warmth(0, 0), 20);
        due("sum", x.warmth(-1, 0), 320);
        // four neighbours lack it: 20 less 8; none goes through walls that differ by less than 24
        due("a corner", x.warmth(0, 1), 12);
        due("the middle", x.warmth(5, 1), 20);
        due("in thought", x.warmth(-1, 0), 320);
        x.mend(5, 0, 9);
        due("with a fire", x.warmth(5, 1), 29);
        x.empty(5);
        due("without it", x.warmth(5, 1), 20);
        SixWalls y = apart();
        y.mend(5, 0, 9);
        due("held below 100", y.warmth(5, 9), 99);
        due("on the way", y.warmth(5, 8), 92);
        due("30", y.warmth(5, 30), 99);
        // by the walls as they are at its beginning: five pairs give half of the difference each, more than there is
        SixWalls z = apart();
        z.mend(5, 0, 9);
        z.days(1);
        tell(z, "d");
        due("29 less six times 4", z.warmth(5, 1), 29 - 24 + 9);
        z.mend(5, 0, 0);
        due("a neighbour", z.warmth(6, 1), 24);
        int[][] bad = {{-2, 0}, {16, 0}, {0, -1}, {0, 31}, {-1, 31}, {-1, -1}, {MIN, 0}, {0, MAX}};
        for (int[] b : bad) due("bad", x.warmth(b[0], b[1]), BAD);
        SixWalls floor = apart();
        floor.mend(10, 0, 9);
        floor.days(9);
        floor.mend(10, 0, 0);
        floor.mend(6, 0, 9);
        tell(floor, "d");
        due("far below 0 in between, then held", floor.warmth(10, 1), 0);
        due("its neighbour", floor.warmth(6, 1), 20 + 39 + 9);
        SixWalls top = apart();
        top.mend(2, 0, 9);
        top.mend(6, 0, 9);
        top.mend(7, 0, 9);
        top.mend(3, 0, 7);
        top.days(9);
        top.mend(0, 5, 4);
        tell(top, "8");
        due("far above 99 in between, then less by the cold", top.warmth(3, 1), 99);
        top.mend(3, 0, 0);
        due("without its fire", top.warmth(3, 1), 83 + 8 + 8 + 8 - 12);
    }

    private static void cold() {
        SixWalls x = apart();
        x.mend(3, 0, 1);
        due("below 20", x.cold(20, 0), 0);
        due("below 21", x.cold(21, 0), 16);
        due("below 21 then", x.cold(21, 1), 15);
        due("below 22 then", x.cold(22, 1), 16);
        x.empty(4);
        due("who lives there", x.cold(21, 0), 15);
        due("99", x.cold(99, 0), 15);
        due("0", x.cold(0, 30), 0);
        int[][] bad = {{-1, 0}, {100, 0}, {0, -1}, {0, 31}};
        for (int[] b : bad) due("bad", x.cold(b[0], b[1]), BAD);
    }

    private static void still() {
        SixWalls x = apart();
        due("at once", x.still(), 0);
        x.mend(5, 0, 1);
        due("79 days", x.still(), NOT);
        x.days(18);
        due("61 days", x.still(), NOT);
        x.days(1);
        due("60 days", x.still(), 60);
        x.days(30);
        due("30 days", x.still(), 30);
        x.days(29);
        due("1 day", x.still(), 1);
        x.days(1);
        due("none", x.still(), 0);
    }

    private static void gave() {
        SixWalls x = apart();
        x.mend(5, 0, 8);
        x.days(5);
        x.mend(5, 0, 0);
        tell(x, "d=40?1;d=34?2;0");
        due("no day", x.gave(13, 0), 0);
        due("1 day", x.gave(13, 1), 1);
        // 60 - 6 = 54 against 21: d 33, none goes
        due("2 days", x.gave(13, 2), 1);
        tell(x, "1");
        due("30 days", x.gave(13, 3), 3);
        due("the other way round", x.gave(10, 3), -3);
        due("wall 33", x.gave(33, 0), VOID);
        due("wall -1", x.gave(-1, 0), VOID);
        due("31 days", x.gave(0, 31), VOID);
        due("-1 days", x.gave(0, -1), VOID);
        due("in thought", x.of(5, 2), 60);
    }

    private static void leastFire() {
        SixWalls x = apart();
        due("as it is", x.leastFire(5, 2000), 0);
        due("not now", x.leastFire(5, 2100), NOT);
        due("1", x.leastFire(5, 2101), 1);
        due("9", x.leastFire(5, 2901), 9);
        due("10", x.leastFire(5, 3001), NOT);
        due("30 days", x.leastFire(5, 9930), 3);
        x.mend(5, 0, 7);
        due("whatever it is", x.leastFire(5, 2101), 1);
        due("in thought", x.of(5, 0), 7);
        int[] bad = {-1, 31, 99, 10000, 10030, MIN, MAX};
        for (int wk : bad) due("wk " + wk, x.leastFire(0, wk), BAD);
        due("house 16", x.leastFire(16, 0), BAD);
        due("house -1", x.leastFire(-1, 0), BAD);
    }

    private static void days() {
        SixWalls x = new SixWalls();
        due("-1", x.days(-1), BAD);
        due("0", x.days(0), BAD);
        due("31", x.days(31), BAD);
        int then = x.warmth(-1, 7);
        int one = x.warmth(0, 7);
        due("7", x.days(7), then);
        due("house 0", x.of(0, 2), one);
        due("days", x.count(2), 7);
        due("30", x.days(30), 80);
        due("days", x.count(2), 37);
    }

    private static void led() {
        SixWalls x = apart();
        due("no day", x.led(13), STATE);
        due("wall 33", x.led(33), VOID);
        due("wall -1", x.led(-1), VOID);
        x.mend(6, 0, 9);
        x.days(4);
        due("nothing went", x.led(13), 0);
        tell(x, "d/12");
        x.mend(6, 0, 0);
        int both = x.gave(13, 2);
        int first = x.gave(13, 1);
        x.days(2);
        due("the latest day alone", x.led(13), both - first);
        due("from the greater: below 0", x.led(13) < 0 ? 1 : 0, 1);
        x.image();
        x.back();
        due("kept", x.led(13), both - first);
        tell(x, "0");
        x.days(1);
        due("then nothing", x.led(13), 0);
    }

    private static void rounds() {
        SixWalls x = new SixWalls();
        due("one", x.rounds(-1), 1);
        due("THICK then", x.rounds(0), 4);
        due("in thought", x.of(0, 10), 3);
        x.mend(0, 6, 18);
        // the middle houses bear just what they have: only walls that are not theirs grow
        due("wall 13", x.rounds(13), 3);
        due("wall 0", x.rounds(0), 4);
        x.mend(0, 2, 9);
        x.mend(0, 6, 6);
        due("thinner, whatever they bear", x.rounds(0), 4);
        due("five rounds", x.rounds(-1), 5);
        x.mend(0, 6, 54);
        for (int h = 0; h < 16; h++) x.mend(h, 1, 9);
        due("six rounds", x.rounds(-1), 6);
        due("all as thick as can be", x.rounds(32), 9);
        for (int h = 0; h < 16; h++) x.mend(h, 1, 0);
        due("nine rounds", x.rounds(-1), 9);
        for (int h = 0; h < 16; h++) x.empty(h);
        due("nobody's", x.rounds(-1), 0);
        due("as it is", x.rounds(0), 9);
        due("33", x.rounds(33), BAD);
        due("-2", x.rounds(-2), BAD);
        SixWalls z = new SixWalls();
        z.mend(0, 6, 18);
        z.empty(5);
        due("an empty house bears no more, too", z.rounds(4), 3);
        z.mend(8, 2, 0);
        due("though the other one would", z.rounds(13), 3);
        SixWalls y = new SixWalls();
        y.mend(0, 2, 9);
        y.mend(0, 6, 12);
        // 1 bears 9 + 3 + 3 + 3: what wall 0 sheds is not all that 1 may bear at once
        y.mend(0, 1, 0);
        y.mend(1, 1, 0);
        due("room for others when it is shed", y.rounds(0), 0);
        due("wall 2, with 1 and 2", y.rounds(2), 2);
    }

    private static void way() {
        SixWalls x = new SixWalls();
        due("itself", x.way(707), 0);
        due("no door", x.way(1), NOT);
        x.mend(0, 3, 1);
        x.mend(x.wall(105), 3, 1);
        x.mend(x.wall(509), 3, 1);
        due("three", x.way(9), 3);
        due("back", x.way(900), 3);
        x.mend(x.wall(4), 3, 1);
        x.mend(x.wall(409), 3, 1);
        due("the shorter one", x.way(9), 2);
        x.empty(4);
        due("through an empty house", x.way(9), 2);
        due("another", x.way(15), NOT);
        int[] bad = {-1, 16, 1600, MIN, MAX, 99};
        for (int ab : bad) due("ab " + ab, x.way(ab), BAD);
    }

    private static void doors() {
        SixWalls x = new SixWalls();
        due("four in the middle", x.doors(0), 4);
        due("no friends", x.doors(1), 0);
        x.mend(13, 3, 1);
        due("no way out yet", x.doors(0), 4);
        due("friends", x.doors(1), 1);
        x.mend(x.wall(607), 3, 1);
        due("5 by 6 by 7", x.doors(0), 2);
        due("two pairs", x.doors(1), 2);
        x.empty(6);
        due("the way stays", x.doors(0), 2);
        due("no friends of nobody", x.doors(1), 0);
        x.empty(9);
        due("who lives there", x.doors(0), 1);
        due("2", x.doors(2), BAD);
        due("-1", x.doors(-1), BAD);
    }

    private static void opened() {
        SixWalls x = new SixWalls();
        due("four", x.opened(0), 4);
        due("which", x.opened(1), 1L << 4 | 1L << 7 | 1L << 12 | 1L << 15);
        x.empty(5);
        // 10 by way of 5 would cost two: 11 is nearer
        due("three", x.opened(0), 3);
        due("which", x.opened(1), 1L << 7 | 1L << 12 | 1L << 17);
        x.mend(x.wall(510), 3, 1);
        due("10 with 5, where nobody lives", x.opened(1), 1L << 4 | 1L << 7 | 1L << 12);
        x.mend(x.wall(1014), 3, 1);
        due("5 is out by 10", x.opened(1), 1L << 7 | 1L << 14 - 2);
        due("two", x.opened(0), 2);
        x.empty(6);
        x.empty(9);
        due("none", x.opened(0), 0);
        due("none", x.opened(1), 0);
        due("2", x.opened(2), Long.MIN_VALUE);
        due("-1", x.opened(-1), Long.MIN_VALUE);
    }

    private static void heard() {
        SixWalls x = new SixWalls();
        due("itself", x.heard(303, 42), 42);
        due("next door", x.heard(1, 42), 33);
        due("two walls", x.heard(2, 42), 24);
        x.mend(2, 3, 1);
        due("one with a door", x.heard(2, 42), 30);
        x.mend(2, 2, 9);
        due("its THICK does not count", x.heard(2, 42), 30);
        x.mend(0, 2, 9);
        due("another way", x.heard(1, 42), 24);
        due("not below 0", x.heard(15, 9), 0);
        due("99", x.heard(0, 99), 99);
        due("-1", x.heard(0, -1), BAD);
        due("100", x.heard(0, 100), BAD);
        int[] bad = {-1, 16, 1600, MIN, MAX};
        for (int ab : bad) due("ab " + ab, x.heard(ab, 5), BAD);
    }

    private static void whose() {
        SixWalls x = new SixWalls();
        due("too low for all", x.whose(9, 0), 65535);
        due("next door", x.whose(10, 1 << 1 | 1 << 4), 1);
        due("itself told", x.whose(10, 1 | 1 << 1 | 1 << 4), 1);
        due("one too many", x.whose(10, 1 << 1 | 1 << 4 | 1 << 5), 0);
        due("one too few", x.whose(10, 1 << 1), 0);
        x.empty(4);
        due("heard where nobody lives", x.whose(10, 1 << 1 | 1 << 4), 1);
        x.empty(0);
        due("nobody to make it", x.whose(10, 1 << 1 | 1 << 4), 0);
        int[][] bad = {{-1, 0}, {100, 0}, {0, -1}, {0, 65536}, {MIN, MAX}};
        for (int[] b : bad) due("bad", x.whose(b[0], b[1]), BAD);
    }

    private static void colours() {
        SixWalls x = new SixWalls();
        due("all alike", x.colours(0), 118);
        due("pots", x.colours(2), 1);
        x.mend(0, 4, 5);
        // wall 0: one other of 0's, three of 1's
        due("one other", x.colours(0), 114);
        due("pots", x.colours(2), 2);
        x.mend(1, 4, 5);
        due("a pair of 0's", x.colours(0), 114 - 4 + 1);
        due("calmed", x.colours(1) < 20 ? 1 : 0, 1);
        due("in thought", x.of(2, 12), 0);
        due("3", x.colours(3), BAD);
        due("-1", x.colours(-1), BAD);
    }

    private static void paint() {
        SixWalls x = new SixWalls();
        due("the least of five", x.paint(0), 1);
        x.mend(1, 4, 1);
        due("1 is 0's other wall", x.paint(0), 2);
        x.mend(0, 4, 3);
        due("not that it has", x.paint(0), 2);
        int[] of1 = {2, 3, 4};
        for (int i = 0; i < 3; i++) x.mend(of1[i], 4, 2 + i);
        due("0 again", x.paint(0), 0);
        x.mend(2, 4, 0);
        x.mend(3, 4, 5);
        due("2 and 3 are free", x.paint(0), 2);
        due("33", x.paint(33), BAD);
        due("-1", x.paint(-1), BAD);
    }

    private static void empty() {
        SixWalls x = new SixWalls();
        x.mend(7, 0, 5);
        x.mend(7, 1, 9);
        due("15", x.empty(7), 15);
        due("FIRE", x.of(7, 0), 0);
        due("LIVED IN", x.of(7, 3), 0);
        due("WARMTH", x.of(7, 2), 20);
        due("AGREED", x.of(9, 14), 4);
        due("STATE", x.empty(7), STATE);
        due("changes", x.count(4), 2);
        due("16", x.empty(16), BAD);
        due("-1", x.empty(-1), BAD);
        due("14", x.empty(0), 14);
    }

    private static void takes() {
        SixWalls x = new SixWalls();
        due("LIVED IN", x.takes(5, 0), STATE);
        due("LIVED IN", x.takes(5, 1), STATE);
        due("what 2", x.takes(5, 2), BAD);
        due("what -1", x.takes(5, -1), BAD);
        due("16", x.takes(16, 0), BAD);
        due("-1", x.takes(-1, 0), BAD);
        x.empty(5);
        due("the least number", x.takes(5, 0), 1);
        x.mend(10, 1, 7);
        due("most want", x.takes(5, 0), 10);
        due("not in deed", x.of(5, 3), 0);
        x.mend(9, 1, 7);
        due("of like ones the least", x.takes(5, 1), 9);
        due("LIVED IN", x.of(5, 3), 1);
        due("WANT", x.of(5, 1), 7);
        due("DOOR", x.of(x.wall(509), 11), 1);
        due("one door", x.count(1), 1);
        due("no more changes", x.count(4), 2);
        for (int h = 0; h < 3; h++) x.empty(h);
        x.empty(4);
        due("nobody beside", x.takes(0, 0), NOT);
        due("nobody beside", x.takes(0, 1), NOT);
        due("still empty", x.of(0, 3), 0);
        due("5 is beside 1", x.takes(1, 0), 5);
    }

    private static void where() {
        SixWalls x = apart();
        due("none", x.where(0), NOT);
        x.empty(9);
        x.empty(4);
        due("the least", x.where(30), 4);
        x.mend(9, 0, 1);
        due("now", x.where(0), 4);
        due("then", x.where(1), 9);
        x.mend(10, 0, 9);
        due("not one LIVED IN", x.where(1), 9);
        due("31", x.where(31), BAD);
        due("-1", x.where(-1), BAD);
    }

    private static void years() {
        SixWalls x = new SixWalls();
        due("0", x.years(5, 0), BAD);
        due("21", x.years(5, 21), BAD);
        due("-1", x.years(5, -1), BAD);
        // seeds by what they draw first; 15 houses are empty, so that one draw is a year
        for (int seed = -300; seed < 300; seed++) {
            int draw = (seed * 1103515245 + 12345 >>> 8) % 12;
            SixWalls y = new SixWalls();
            y.mend(15, 0, 4);
            y.mend(15, 1, 6);
            y.mend(31, 3, 1);
            y.mend(32, 3, 1);
            y.mend(29, 3, 1);
            for (int h = 0; h < 15; h++) y.empty(h);
            due("draw " + draw, y.years(seed, 1), draw == 0 ? 2 : 1);
            due("birth in 11", y.of(11, 3), draw == 0 ? 1 : 0);
            due("its want", y.of(11, 1), draw == 0 ? 6 : 4);
            due("feud at 29", y.of(29, 11), draw == 1 ? 0 : 1);
            due("not at 32", y.of(32, 11), 1);
            due("fire", y.of(15, 0), draw == 2 ? 5 : draw == 3 ? 3 : 4);
            due("no changes", y.count(4), 5);
        }
        SixWalls z = new SixWalls();
        int[] fire = new int[16];
        int seed = 99;
        for (int t = 0; t < 320; t++) {
            seed = seed * 1103515245 + 12345;
            int draw = (seed >>> 8) % 12;
            if (draw == 2) fire[t % 16] = Math.min(9, fire[t % 16] + 1);
            if (draw == 3) fire[t % 16] = Math.max(0, fire[t % 16] - 1);
        }
        due("20 years", z.years(99, 20), 16);
        for (int h = 0; h < 16; h++) due("fire of " + h, z.of(h, 0), fire[h]);
    }

    private static void imageAndBack() {
        SixWalls x = apart();
        due("none", x.back(), STATE);
        x.mend(5, 0, 3);
        due("image", x.image(), 320);
        x.empty(0);
        x.days(4);
        due("then", x.warmth(-1, 0), 332);
        due("back", x.back(), 320);
        due("who lives there", x.of(0, 3), 1);
        due("the fire stays", x.of(5, 0), 3);
        x.days(1);
        due("once more", x.back(), 320);
        due("the days stay", x.count(2), 5);
        x.days(1);
        due("another", x.image(), 323);
        x.days(1);
        due("that one", x.back(), 323);
    }

    private static void undoAndRedo() {
        SixWalls x = new SixWalls();
        due("none", x.undo(), STATE);
        due("none", x.redo(), STATE);
        x.mend(1, 0, 5);
        x.mend(1, 0, 5);
        x.mend(2, 1, 6);
        x.mend(0, 6, 54);
        due("three", x.count(4), 3);
        due("undo", x.undo(), 2);
        due("BEAR", x.of(0, 21), 30);
        due("undo", x.undo(), 1);
        due("WANT", x.of(2, 1), 4);
        due("the same number is none", x.mend(3, 0, 0), 0);
        due("redo", x.redo(), 1);
        due("WANT", x.of(2, 1), 6);
        due("undo", x.undo(), 1);
        due("another", x.mend(9, 3, 1), 0);
        due("no redo then", x.redo(), STATE);
        due("undo", x.undo(), 1);
        due("undo", x.undo(), 0);
        due("FIRE", x.of(1, 0), 0);
        due("no more", x.undo(), STATE);
        due("redo", x.redo(), 1);
        due("redo", x.redo(), 0);
        due("no more", x.redo(), STATE);
        SixWalls y = new SixWalls();
        for (int n = 1; n <= 45; n++) y.mend(n % 16, 0, 1 + n / 16);
        due("40", y.count(4), 40);
        for (int n = 39; n >= 0; n--) due("undo", y.undo(), n);
        due("no more", y.undo(), STATE);
        due("the sixth", y.of(6, 0), 0);
        due("the fifth stays", y.of(5, 0), 1);
        for (int n = 39; n >= 0; n--) due("redo", y.redo(), n);
        due("as they were", y.of(13, 0), 3);
        due("40", y.count(4), 40);
    }

    private static void body() {
        SixWalls x = new SixWalls();
        due("-1", x.body(-1), BAD);
        due("8", x.body(8), BAD);
        for (int n = 0; n < 50; n++) due("body", x.body(n % 8), n);
        due("full", x.body(0), FULL);
        due("bad ahead of full", x.body(8), BAD);
        due("50", x.count(5), 50);
    }

    /** Each kind's four acts with x 5, the cell's number being its kind, and the bodies that ran. */
    private static void actAndTrace() {
        SixWalls x = new SixWalls();
        for (int kind = 0; kind < 8; kind++) x.body(kind);
        int[][] due = {
            {5, 10, 5, 10 - (1 ^ 0)},
            {9, 18, 4, 18 - (1 ^ 1)},
            {7, -14, 7, -14 - 3},
            {8, -18, 18, -18 - 6},
            {12, 24, (5 ^ 4) - 9, 24 - ((1 ^ 4) - 9)},
            {10, -22, 0, (-22 - (1 ^ 5) * 3) ^ 5},
            {22, 44, 3, 44 - 7},
            {15, 30 + (2 ^ 7) - 12, (5 ^ 7) - 12, 30 + (2 ^ 7) - 12 - ((1 ^ 7) - 12) - 1},
        };
        for (int kind = 0; kind < 8; kind++) {
            for (int act = 0; act < 4; act++) due("kind " + kind + " act " + act, x.act(kind, act, 5), due[kind][act]);
        }
        ran(x, 0, 0, 1);
        ran(x, 0, 1, 10, 1);
        ran(x, 0, 2, 11);
        ran(x, 0, 3, 2, 10, 1, 11);
        ran(x, 1, 3, 2, 10, 20, 1, 11);
        ran(x, 2, 3, 2, 30, 10, 1, 11);
        ran(x, 3, 3, 2, 41, 30, 10, 1, 40, 11);
        ran(x, 4, 3, 2, 10, 20, 1, 50, 11, 20, 1);
        ran(x, 5, 3, 60, 2, 41, 30, 10, 1, 40, 11);
        ran(x, 6, 1, 10, 70, 1);
        ran(x, 7, 3, 81, 2, 80, 10, 20, 1, 50, 11, 20, 1, 50, 11, 20, 1);
        ran(x, 7, 0, 20, 1);
        due("wraps", x.act(6, 1, MAX), (MAX + 6) * 4);
        due("wraps", x.act(2, 1, MIN), -((MIN + 2) * 2));
        int[][] none = {{8, 0}, {-1, 0}, {0, 4}, {0, -1}, {MAX, MIN}};
        for (int[] n : none) {
            x.act(7, 3, 1);
            due("no such", x.act(n[0], n[1], 5), 0);
            due("no trace", x.trace(0), BAD);
            due("none ran", x.count(6), 0);
        }
    }

    private static void ran(SixWalls x, int body, int act, int... bodies) {
        x.act(body, act, 5);
        due("how many ran", x.count(6), bodies.length);
        for (int i = 0; i < bodies.length; i++) due("trace " + i + " of " + body + ", " + act, x.trace(i), bodies[i]);
        due("behind", x.trace(bodies.length), BAD);
        due("ahead", x.trace(-1), BAD);
    }

    private static void keep() {
        SixWalls x = new SixWalls();
        due("no body yet", x.keep(0, 0), BAD);
        x.body(3);
        due("body 0", x.keep(0, 0), 1);
        due("its kind", x.taken(0, 0), 3);
        due("body 1", x.keep(0, 1), BAD);
        due("as it was", x.taken(0, 0), 3);
        due("nothing", x.keep(0, -1), 1);
        due("bare", x.taken(0, 0), -11);
        due("-2", x.keep(0, -2), BAD);
        due("shelf 6", x.keep(6, -1), BAD);
        due("shelf -1", x.keep(-1, 0), BAD);
        x.row(5, 2, 4);
        due("over a row", x.keep(5, 0), 1);
        due("no row", x.put(5, 0, 1), -12);
    }

    private static void row() {
        SixWalls x = new SixWalls();
        for (int sort = 0; sort < 5; sort++) {
            due("60", x.row(sort, sort, 60), 1);
            due("the last", x.put(sort, 59, 1), 1);
            due("no more", x.put(sort, 60, 1), -13);
            due("61", x.row(sort, sort, 61), BAD);
            due("-1", x.row(sort, sort, -1), -14);
            due("as it was", x.element(sort, 59), 1);
            due("anew", x.row(sort, sort, 60), 1);
            due("0 at first", x.element(sort, 59), 0);
            due("none", x.row(sort, sort, 0), 1);
            due("none", x.put(sort, 0, 1), -13);
        }
        due("sort 5", x.row(0, 5, 1), BAD);
        due("sort -1", x.row(0, -1, 1), BAD);
        due("shelf 6", x.row(6, 0, 1), BAD);
        due("shelf -1", x.row(-1, 0, 1), BAD);
        due("BAD ahead of -14", x.row(0, 5, -1), BAD);
        due("BAD ahead of -14", x.row(6, 0, MIN), BAD);
        due("far below", x.row(0, 0, MIN), -14);
        due("far above", x.row(0, 0, MAX), BAD);
    }

    private static void putAndElement() {
        SixWalls x = new SixWalls();
        long[] v = {0, 1, 2, -1, 127, 128, 255, 256, 32768, 65536, 1L << 31, 1L << 32, (1L << 40) + 5, Long.MIN_VALUE, Long.MAX_VALUE, -129};
        for (int sort = 0; sort < 5; sort++) x.row(sort, sort, 16);
        for (int i = 0; i < 16; i++) {
            for (int sort = 0; sort < 5; sort++) due("put", x.put(sort, i, v[i]), 1);
            due("byte", x.element(0, i), (byte) v[i]);
            due("short", x.element(1, i), (short) v[i]);
            due("int", x.element(2, i), (int) v[i]);
            due("long", x.element(3, i), v[i]);
            due("boolean", x.element(4, i), v[i] != 0 ? 1 : 0);
        }
        x.body(0);
        x.keep(4, 0);
        int[][] refused = {{6, 0, BAD}, {-1, 0, BAD}, {5, 0, -11}, {5, -1, -11}, {4, 0, -12}, {4, 99, -12},
            {0, 16, -13}, {0, -1, -13}, {0, MIN, -13}, {3, MAX, -13}};
        for (int[] r : refused) {
            due("put", x.put(r[0], r[1], 1), r[2]);
            due("element", x.element(r[0], r[1]), Long.MIN_VALUE);
        }
    }

    private static void shift() {
        SixWalls x = new SixWalls();
        x.row(0, 2, 6);
        x.row(1, 2, 4);
        for (int i = 0; i < 6; i++) x.put(0, i, 10 + i);
        due("to another", x.shift(0, 1, 1, 0, 4), 4);
        for (int i = 0; i < 4; i++) due("there", x.element(1, i), 11 + i);
        due("to itself, onwards", x.shift(0, 0, 0, 2, 4), 4);
        int[] onwards = {10, 11, 10, 11, 12, 13};
        for (int i = 0; i < 6; i++) due("as they all were", x.element(0, i), onwards[i]);
        due("to itself, backwards", x.shift(0, 2, 0, 0, 4), 4);
        int[] backwards = {10, 11, 12, 13, 12, 13};
        for (int i = 0; i < 6; i++) due("as they all were", x.element(0, i), backwards[i]);
        due("none", x.shift(0, 6, 1, 4, 0), 0);
        int[][] beside = {{7, 0, 0}, {0, 5, 0}, {-1, 0, 1}, {0, -1, 1}, {0, 0, -1}, {0, 0, 5}, {3, 0, 4}, {0, 1, 4},
            {MAX, 0, 1}, {1, MAX, 1}, {1, 1, MAX}, {MIN, 0, MAX}, {0, 0, MIN}};
        for (int[] b : beside) due("beside", x.shift(0, b[0], 1, b[1], b[2]), -13);
        due("shelf 6", x.shift(6, 0, 0, 0, 0), BAD);
        due("other 6", x.shift(0, 0, 6, 0, 0), BAD);
        due("-1", x.shift(-1, 0, 5, 0, 0), BAD);
        due("other bare", x.shift(0, 0, 5, 0, -1), -11);
        due("bare", x.shift(5, 0, 0, 0, -1), -11);
        x.row(2, 3, 6);
        due("unlike", x.shift(0, 0, 2, 0, 99), -12);
        x.row(3, 0, 6);
        x.row(4, 4, 6);
        due("bytes and booleans", x.shift(3, 0, 4, 0, 1), -12);
        x.body(0);
        x.keep(2, 0);
        due("a cell", x.shift(2, 0, 0, 0, 1), -12);
        due("to a cell", x.shift(0, 0, 2, 0, 1), -12);
        due("a cell to itself", x.shift(2, 0, 2, 0, 0), -12);
        due("a cell and nothing", x.shift(2, 0, 5, 0, 0), -11);
        due("nothing and a cell", x.shift(5, 0, 2, 0, 0), -11);
    }

    private static void taken() {
        SixWalls x = new SixWalls();
        int[] under = {1, 1 | 2, 1 | 4, 1 | 4 | 8, 1 | 2 | 16, 1 | 4 | 8 | 32, 1 | 64, 1 | 2 | 16 | 128};
        for (int kind = 0; kind < 8; kind++) {
            x.body(kind);
            x.keep(2, kind);
            for (int k = 0; k < 8; k++) due(kind + " for " + k, x.taken(2, k), (under[kind] >> k & 1) == 1 ? kind : -12);
        }
        due("8", x.taken(2, 8), BAD);
        due("-1", x.taken(2, -1), BAD);
        due("shelf 6", x.taken(6, 0), BAD);
        due("shelf -1", x.taken(-1, 0), BAD);
        due("bare", x.taken(0, 7), -11);
        x.row(0, 0, 0);
        due("a row", x.taken(0, 0), -12);
        due("BAD ahead of -12", x.taken(0, 8), BAD);
    }

    private static void count() {
        SixWalls x = new SixWalls();
        x.empty(3);
        x.mend(4, 3, 1);
        x.mend(5, 3, 1);
        x.undo();
        x.days(3);
        x.feed(1);
        x.feed(2);
        x.body(4);
        x.act(0, 3, 0);
        int[] counts = {15, 1, 3, 2, 1, 1, 8};
        for (int i = 0; i < 7; i++) due("count " + i, x.count(i), counts[i]);
        due("7", x.count(7), BAD);
        due("-1", x.count(-1), BAD);
    }
}
