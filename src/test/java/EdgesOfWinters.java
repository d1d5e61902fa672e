/** Sentence by sentence of the document's "Terms", part 2, winters: ends, what is beside them, empty and full. */
public final class EdgesOfWinters extends Due {
    public static void main(String[] args) {
        sentence = "all WALLS by WARMTHS as they are at its beginning"; atOnce();
        sentence = "COLD less for each neighbour that it lacks of six"; lacks();
        sentence = "below 0: 0; above 99: 99"; clamped();
        sentence = "Also HOUSES that nobody lives in"; emptyWinters();
        sentence = "In thought, k DAYS (0 .. 30)"; thought();
        sentence = "k DAYS (1 .. 30) in deed"; deed();
        sentence = "how many LIVED IN are below a told WARMTH (0 .. 99)"; below();
        sentence = "STILL: behind how many DAYS (0 .. 60)"; still();
        sentence = "GAVE (below 0: the other way round)"; gave();
        sentence = "LEAST FIRE (0 .. 9); no colder"; leastFire();
        sentence = "AGREED: the half of both WANTS (cut; of one alone; of none as it is)"; agreed();
        sentence = "a HOUSE bears no more than BEAR (6 .. 54; 30 at first)"; bear();
        sentence = "rounds till none changes (0 .. 99)"; rounds();
        end();
    }

    private static void atOnce() {
        SixWalls x = warmer(8);
        tell(x, "d/4");
        // 5 gives 2 to each of its six, whatever the others have had by then
        due("5", x.warmth(5, 1), 28 - 12);
        for (int h : new int[] {1, 2, 4, 6, 9, 10}) due("beside 5: " + h, x.warmth(h, 1), 22);
        due("farther off", x.warmth(0, 1), 20);
        due("the sum", x.warmth(-1, 1), 328);
        SixWalls y = uneven();
        int[] then = new int[16];
        for (int h = 0; h < 16; h++) then[h] = y.of(h, 2) + y.of(h, 0) - y.of(0, 20) * (6 - y.of(h, 4));
        for (int w = 0; w < 33; w++) {
            int much = y.of(w, 15);
            due("something goes through " + w, much != 0 ? 1 : 0, 1);
            due("gave, by " + w, y.gave(w, 1), much);
            then[y.of(w, 13) / 100] -= much;
            then[y.of(w, 13) % 100] += much;
        }
        int sum = 0;
        for (int h = 0; h < 16; h++) {
            due("through all WALLS, in " + h, y.warmth(h, 1), then[h]);
            sum += then[h];
        }
        due("in deed", y.days(1), sum);
        for (int h = 0; h < 16; h++) due("in deed, in " + h, y.of(h, 2), then[h]);
    }

    /** Each two neighbours differ by 8 at least, none is near 0 or 99, and there are fires and cold. */
    private static SixWalls uneven() {
        SixWalls x = apart();
        int[] kind = {0, 1, 2, 0, 2, 0, 1, 2, 0, 1, 2, 0, 2, 0, 1, 2};
        for (int h = 0; h < 16; h++) x.mend(h, 0, 3 * kind[h]);
        x.days(3);
        for (int h = 0; h < 16; h++) x.mend(h, 0, (h * 5) % 7);
        x.mend(0, 5, 2);
        tell(x, "d/4");
        return x;
    }

    private static void lacks() {
        for (int cold = 0; cold < 10; cold++) {
            SixWalls x = apart();
            x.mend(0, 5, cold);
            for (int h = 0; h < 16; h++) due("COLD " + cold + " in " + h, x.warmth(h, 1), Math.max(0, 20 - cold * (6 - x.of(h, 4))));
        }
        SixWalls x = apart();
        x.mend(0, 5, 9);
        x.mend(0, 0, 9);
        due("FIRE 9 in 0, by COLD 9", x.warmth(0, 1), 0);
        x.mend(4, 0, 9);
        due("FIRE 9 in 4, by COLD 9", x.warmth(4, 30), 20);
    }

    private static void clamped() {
        SixWalls x = warmer(77);
        x.mend(5, 0, 1);
        due("97 and 1", x.warmth(5, 1), 98);
        due("97 and 2", x.warmth(5, 2), 99);
        due("97 and 3", x.warmth(5, 3), 99);
        x.mend(5, 0, 2);
        due("97 and 2", x.warmth(5, 1), 99);
        x.mend(5, 0, 3);
        due("97 and 3", x.warmth(5, 1), 99);
        x.mend(5, 0, 9);
        due("97 and 9", x.days(1), 99 + 300);
        SixWalls y = apart();
        y.mend(0, 5, 5);
        due("20 less 20", y.warmth(0, 1), 0);
        y.mend(0, 5, 4);
        y.mend(0, 0, 9);
        y.mend(0, 0, 0);
        due("20 less 16", y.warmth(0, 1), 4);
        due("4 less 16", y.warmth(0, 2), 0);
        y.mend(0, 5, 6);
        due("20 less 24", y.warmth(0, 1), 0);
        due("never below", y.warmth(0, 30), 0);
    }

    private static void emptyWinters() {
        SixWalls x = warmer(40);
        x.empty(6);
        x.empty(0);
        x.mend(0, 5, 1);
        due("an empty corner", x.warmth(0, 1), 16);
        tell(x, "4");
        due("through its wall", x.warmth(6, 1), 24);
        due("gave", x.gave(13, 1), 4);
        x.mend(6, 0, 3);
        due("by its FIRE", x.warmth(6, 1), 27);
        tell(x, "0");
        due("in the sum", x.warmth(-1, 0), 360);
        for (int h = 0; h < 16; h++) x.empty(h);
        due("nobody at all: the sum", x.warmth(-1, 0), 360);
    }

    private static void thought() {
        bounds("warmth(0, k)", 0, 30, BAD, (x, k) -> x.warmth(0, k));
        bounds("warmth(-1, k)", 0, 30, BAD, (x, k) -> x.warmth(-1, k));
        bounds("cold(0, k)", 0, 30, BAD, (x, k) -> x.cold(0, k));
        bounds("gave(0, k)", 0, 30, VOID, (x, k) -> x.gave(0, k));
        SixWalls x = apart();
        x.mend(5, 0, 1);
        for (int k = 0; k <= 30; k++) {
            due("behind " + k, x.warmth(5, k), 20 + k);
            due("the sum behind " + k, x.warmth(-1, k), 320 + k);
            due("who is below 21 behind " + k, x.cold(21, k), k == 0 ? 16 : 15);
        }
        due("no DAY in deed", x.count(2), 0);
        due("as it was", x.of(5, 2), 20);
    }

    private static void deed() {
        bounds("days(k)", 1, 30, BAD, SixWalls::days);
        for (int k = 1; k <= 30; k++) {
            SixWalls x = apart();
            x.mend(5, 0, 1);
            due("days(" + k + ")", x.days(k), 320 + k);
            due("WARMTH", x.of(5, 2), 20 + k);
            due("how many", x.count(2), k);
            due("one more", x.days(1), 321 + k);
            due("how many", x.count(2), k + 1);
        }
        SixWalls still = apart();
        due("a DAY that changes nothing is one too", still.days(30), 320);
        due("how many", still.count(2), 30);
        for (int n = 0; n < 100; n++) still.days(30);
        due("how many", still.count(2), 3030);
    }

    private static void below() {
        bounds("cold(below, 0)", 0, 99, BAD, (x, n) -> x.cold(n, 0));
        SixWalls x = warmer(79);
        due("99 is not below 99", x.cold(99, 0), 15);
        x.days(1);
        due("20 is not below 20", x.cold(20, 0), 0);
        due("20 is below 21", x.cold(21, 0), 15);
        x.empty(4);
        due("nobody lives there", x.cold(21, 0), 14);
        SixWalls y = apart();
        y.mend(0, 5, 9);
        y.days(30);
        due("0 is not below 0", y.cold(0, 0), 0);
        due("0 is below 1", y.cold(1, 0), 12);
        for (int h = 0; h < 16; h++) y.empty(h);
        due("nobody at all", y.cold(99, 0), 0);
    }

    private static void still() {
        // from 99 less so many days by a fire of 1
        for (int left = 1; left < 80; left++) {
            if (left > 3 && left < 57 || left > 63 && left < 78) continue;
            SixWalls x = warmer(79 - left);
            x.mend(5, 0, 1);
            due(left + " to go", x.still(), left <= 60 ? left : NOT);
        }
        due("at once", apart().still(), 0);
        due("to and fro", swing().still(), NOT);
    }

    /** House 5 is 60 warm and 0 by turns: what it gives each of its six comes back on the next day. */
    private static SixWalls swing() {
        SixWalls x = warmer(40);
        tell(x, "a=60?10;b=0?10;0");
        for (int k = 0; k <= 30; k++) due("to and fro", x.warmth(5, k), k % 2 == 0 ? 60 : 0);
        return x;
    }

    private static void gave() {
        SixWalls x = warmer(60);
        x.mend(5, 0, 6);
        tell(x, "a>70");
        for (int k = 0; k <= 30; k++) {
            due("from the lesser in " + k, x.gave(13, k), k);
            due("from the greater in " + k, x.gave(4, k), -k);
            due("between others in " + k, x.gave(0, k), 0);
        }
        due("no DAY in deed", x.led(13) == 0 && x.count(2) == 7 ? 1 : 0, 1);
        SixWalls y = swing();
        for (int k = 0; k <= 30; k++) due("there and back in " + k, y.gave(13, k), k % 2 * 10);
        for (int k = 0; k <= 30; k++) due("the other way round, there and back in " + k, y.gave(4, k), k % 2 * -10);
    }

    private static void leastFire() {
        for (int wk = -300; wk < 10300; wk += wk % 100 == 40 ? 57 : 1) {
            boolean good = wk >= 0 && wk / 100 <= 99 && wk % 100 <= 30;
            if (good && wk % 100 > 1 && wk % 100 < 29) continue;
            due("leastFire(5, " + wk + ") is BAD", new SixWalls().leastFire(5, wk) == BAD ? 1 : 0, good ? 0 : 1);
        }
        SixWalls x = apart();
        for (int f = 0; f <= 9; f++) {
            due("as warm as told by " + f, x.leastFire(5, 100 * (20 + f) + 1), f);
            due("in two days", x.leastFire(5, 100 * (20 + 2 * f) + 2), f);
        }
        due("by none", x.leastFire(5, 3001), NOT);
        due("less than it has", x.leastFire(5, 1901), 0);
        due("behind none", x.leastFire(5, 2000), 0);
        due("behind none", x.leastFire(5, 2100), NOT);
        due("99 behind 30", x.leastFire(5, 9930), 3);
        due("50 behind 30", x.leastFire(5, 5030), 1);
        due("51 behind 30", x.leastFire(5, 5130), 2);
        SixWalls y = apart();
        y.mend(0, 5, 2);
        due("9 is not enough at a corner", y.leastFire(0, 2201), NOT);
        due("9 is just enough", y.leastFire(0, 2101), 9);
        y.mend(0, 0, 9);
        due("whatever burns there", y.leastFire(0, 2001), 8);
        due("its FIRE stays", y.of(0, 0), 9);
    }

    private static void agreed() {
        // wants of 5 and 6, and wall 13
        int[][] all = {{0, 0, 0}, {0, 1, 0}, {1, 0, 0}, {1, 1, 1}, {9, 9, 9}, {9, 8, 8}, {9, 0, 4}, {0, 9, 4}, {3, 4, 3}};
        for (int[] one : all) {
            SixWalls x = new SixWalls();
            x.mend(5, 1, one[0]);
            x.mend(6, 1, one[1]);
            x.mend(13, 2, 7);
            due("both, " + one[0] + " and " + one[1], x.of(13, 14), one[2]);
            x.empty(5);
            due("the greater alone", x.of(13, 14), one[1]);
            x.empty(6);
            due("none", x.of(13, 14), 7);
            due("none: no round changes it", x.rounds(13), 7);
            SixWalls y = new SixWalls();
            y.mend(5, 1, one[0]);
            y.mend(6, 1, one[1]);
            y.empty(6);
            due("the lesser alone", y.of(13, 14), one[0]);
        }
    }

    private static void bear() {
        bounds("mend(0, 6, v)", 6, 54, BAD, (x, v) -> x.mend(0, 6, v));
        // each of the middle ones has 18 at first
        SixWalls x = new SixWalls();
        x.mend(0, 6, 18);
        for (int w : new int[] {4, 6, 10, 13, 14, 15, 7, 12, 26}) due("18: " + w, x.rounds(w), 3);
        due("walls of none of them", x.rounds(0), 4);
        x.mend(0, 6, 19);
        due("19: the first of 5's", x.rounds(4), 4);
        for (int w : new int[] {6, 10, 13, 14, 15}) due("19: " + w, x.rounds(w), 3);
        due("19: the first of 6's", x.rounds(7), 4);
        x.mend(0, 6, 20);
        due("20: the second of 5's", x.rounds(6), 4);
        due("20: the third of 5's", x.rounds(10), 3);
        x.mend(0, 6, 24);
        for (int w = 0; w < 33; w++) due("24: all of " + w, x.rounds(w), 4);
        x.mend(0, 6, 23);
        due("23: not the last of 5's", x.rounds(15), 3);
        // one of the two is full: 12 has 5 + 3, 8 has all that it may
        SixWalls y = new SixWalls();
        y.mend(0, 6, 14);
        for (int w = 0; w < 33; w++) y.mend(w, 2, w == 30 ? 9 : w == 21 ? 4 : 0);
        for (int h = 0; h < 16; h++) y.mend(h, 1, h == 12 || h == 8 || h == 13 ? 9 : 0);
        due("12 has 13 of 14: one more", y.rounds(21), 5);
        y.mend(0, 6, 13);
        due("12 has 13 of 13", y.rounds(21), 4);
        SixWalls z = new SixWalls();
        for (int w = 0; w < 33; w++) z.mend(w, 2, 9);
        z.mend(0, 6, 6);
        due("thinner, though it has more than it bears", z.rounds(-1), 5);
        due("down to AGREED alone", z.rounds(0), 4);
        due("54 is what six walls of 9 have", z.of(5, 5), 54);
        SixWalls w = new SixWalls();
        w.mend(0, 6, 54);
        for (int h = 0; h < 16; h++) w.mend(h, 1, 9);
        due("six rounds", w.rounds(-1), 6);
        for (int n = 0; n < 33; n++) due("all 9", w.rounds(n), 9);
        w.mend(0, 6, 53);
        due("one less than that", w.rounds(15), 8);
    }

    private static void rounds() {
        SixWalls x = new SixWalls();
        for (int h = 0; h < 16; h++) x.mend(h, 1, 3);
        due("none changes at once", x.rounds(-1), 0);
        x.mend(0, 2, 4);
        due("one round", x.rounds(-1), 1);
        x.mend(0, 2, 9);
        due("six rounds", x.rounds(-1), 6);
        x.mend(0, 2, 0);
        due("three rounds", x.rounds(-1), 3);
        due("in thought", x.of(0, 10), 0);
        waiting();
        SixWalls y = new SixWalls();
        for (int h = 0; h < 16; h++) y.empty(h);
        due("nobody's walls stay", y.rounds(-1), 0);
    }

    /** 5 is empty and sheds five walls; its sixth one grows as soon as it bears it. */
    private static void waiting() {
        SixWalls x = new SixWalls();
        for (int w = 0; w < 33; w++) x.mend(w, 2, w == 6 || w == 10 || w == 13 || w == 14 || w == 15 ? 9 : 0);
        for (int h = 0; h < 16; h++) x.mend(h, 1, h == 1 ? 9 : 0);
        x.empty(5);
        x.mend(0, 6, 21);
        due("five rounds of waiting, then nine", x.rounds(-1), 14);
        due("THICK then", x.rounds(4), 9);
        due("shed", x.rounds(15), 0);
        due("by 0 and 1", x.rounds(0), 4);
        x.mend(0, 6, 20);
        due("six of waiting, then eight", x.rounds(-1), 14);
        due("1 bears no more", x.rounds(4), 8);
        x.mend(0, 6, 54);
        due("no waiting", x.rounds(-1), 9);
    }
}
