/** Sentence by sentence of the document's "Terms", part 4, in deed: ends, what is beside them, empty and full. */
public final class EdgesOfDeeds extends Due {
    public static void main(String[] args) {
        sentence = "EMPTIED"; emptied();
        sentence = "TAKEN (of like ones the least number)"; taken();
        sentence = "WHERE (of like ones the least); NOT"; where();
        sentence = "YEARS (1 .. 20) by a SEED"; years();
        sentence = "LED: what each DAY in deed brought last"; led();
        sentence = "CHANGES; telling the same number is none"; changes();
        sentence = "DONE AGAIN (as long as no other came behind)"; doneAgain();
        sentence = "40 at most are kept"; forty();
        sentence = "AN IMAGE keeps WARMTHS, who is LIVED IN"; image();
        end();
    }

    private static void emptied() {
        SixWalls x = new SixWalls();
        for (int h = 0; h < 16; h++) {
            x.mend(h, 0, 9);
            due("one less", x.empty(h), 15 - h);
            due("FIRE", x.of(h, 0), 0);
            due("WANT stays", x.of(h, 1), 4);
            due("LIVED IN", x.of(h, 3), 0);
            due("WARMTH stays", x.of(h, 2), 20);
            due("once more", x.empty(h), STATE);
        }
        due("none", x.count(0), 0);
        due("a FIRE where nobody lives", x.mend(3, 0, 7), 0);
        due("it burns", x.of(3, 0), 7);
        due("refused, it is not put out", x.empty(3), STATE);
        due("it burns", x.of(3, 0), 7);
    }

    private static void taken() {
        SixWalls x = new SixWalls();
        for (int h = 0; h < 16; h++) due("all LIVED IN", x.takes(h, 0), STATE);
        x.empty(5);
        due("all alike", x.takes(5, 0), 1);
        for (int h : new int[] {1, 2, 4, 6, 9}) x.mend(h, 1, 3);
        due("the last has most", x.takes(5, 0), 10);
        x.mend(9, 1, 4);
        due("two have most", x.takes(5, 0), 9);
        x.empty(9);
        due("one of them is empty", x.takes(5, 0), 10);
        x.mend(9, 1, 9);
        due("an empty one's WANT does not count", x.takes(5, 0), 10);
        for (int h : new int[] {1, 2, 4, 6, 10}) {
            x.mend(h, 1, 0);
            if (h != 10) x.empty(h);
        }
        due("one alone, of WANT 0", x.takes(5, 0), 10);
        due("in thought: LIVED IN", x.of(5, 3), 0);
        due("in thought: DOOR", x.of(15, 11), 0);
        x.mend(5, 1, 6);
        due("in deed", x.takes(5, 1), 10);
        due("LIVED IN", x.of(5, 3), 1);
        due("with that WANT", x.of(5, 1), 0);
        due("their DOOR", x.of(15, 11), 1);
        due("no other DOOR", x.count(1), 1);
        due("no FIRE of its own", x.of(5, 0), 0);
        due("now it is LIVED IN", x.takes(5, 1), STATE);
        SixWalls y = new SixWalls();
        for (int h = 0; h < 16; h++) if (h != 15) y.empty(h);
        due("nobody beside it", y.takes(0, 0), NOT);
        due("nobody beside it, in deed", y.takes(0, 1), NOT);
        due("one beside it", y.takes(14, 1), 15);
        y.empty(14);
        due("a DOOR that is there stays", y.takes(14, 1), 15);
        due("one DOOR", y.count(1), 1);
        y.empty(14);
        y.empty(15);
        for (int h = 0; h < 16; h++) due("nobody at all", y.takes(h, 1), NOT);
        due("none", y.count(0), 0);
        SixWalls zero = new SixWalls();
        zero.empty(1);
        zero.empty(4);
        due("HOUSE 0, of like ones the least", zero.takes(1, 0), 0);
        zero.mend(0, 1, 9);
        due("HOUSE 0, with most", zero.takes(4, 0), 0);
        due("HOUSE 0, in deed", zero.takes(1, 1), 0);
        due("the DOOR of WALL 0", zero.of(0, 11), 1);
        due("its WANT", zero.of(1, 1), 9);
        for (int h = 0; h < 16; h++) {
            SixWalls far = new SixWalls();
            far.empty(h);
            for (int g = 0; g < 16; g++) if (g != h && far.wall(100 * h + g) >= 0) far.empty(g);
            due("all but those beside " + h, far.takes(h, 0), NOT);
            for (int g = 0; g < 16; g++) {
                if (g == h || far.wall(100 * h + g) < 0) continue;
                SixWalls one = alone(g);
                due("one alone, beside " + h, one.takes(h, 1), g);
                due("their DOOR", one.of(one.wall(100 * h + g), 11), 1);
                due("one DOOR", one.count(1), 1);
            }
        }
    }

    private static void where() {
        SixWalls x = apart();
        due("all LIVED IN", x.where(0), NOT);
        due("all LIVED IN", x.where(30), NOT);
        x.empty(15);
        due("one", x.where(0), 15);
        x.empty(3);
        due("of like ones the least", x.where(0), 3);
        x.mend(15, 0, 1);
        due("not yet", x.where(0), 3);
        due("by one", x.where(1), 15);
        x.mend(3, 0, 1);
        due("alike again", x.where(30), 3);
        x.mend(8, 0, 9);
        due("the warmest is LIVED IN", x.where(30), 3);
        for (int h = 0; h < 16; h++) x.empty(h);
        due("of all", x.where(0), 0);
        SixWalls y = new SixWalls();
        tell(y, "0");
        y.mend(0, 5, 9);
        y.days(30);
        y.empty(0);
        due("at WARMTH 0", y.where(30), 0);
    }

    private static int draw(int z) {
        return (z >>> 8) % 12;
    }

    private static int next(int z) {
        return z * 1103515245 + 12345;
    }

    /** The first seed from one on whose first draws are these; each LIVED IN HOUSE draws once a year. */
    private static int seed(int from, int... draws) {
        for (int seed = from; seed < from + 40000000; seed++) {
            int z = seed;
            int n = 0;
            while (n < draws.length) {
                z = next(z);
                if (draw(z) != draws[n]) break;
                n++;
            }
            if (n == draws.length) return seed;
        }
        throw new IllegalStateException("no seed");
    }

    private static SixWalls alone(int house) {
        SixWalls x = new SixWalls();
        for (int h = 0; h < 16; h++) if (h != house) x.empty(h);
        return x;
    }

    private static void years() {
        bounds("years(seed, n)", 1, 20, BAD, (x, n) -> x.years(7, n));
        for (int s : new int[] {MIN, -1, 0, 1, MAX}) {
            due("any SEED", alone(0).years(s, 1), draw(next(s)) == 0 ? 2 : 1);
            SixWalls x = alone(0);
            x.mend(0, 0, 5);
            int d = draw(next(s));
            x.years(s, 1);
            due("SEED " + s, x.of(0, 0), d == 2 ? 6 : d == 3 ? 4 : 5);
        }
        births();
        feuds();
        SixWalls x = alone(15);
        int two = seed(MIN, 2);
        for (int n = 1; n <= 11; n++) {
            x.years(two, 1);
            due("a fire, 9 at most", x.of(15, 0), Math.min(9, n));
        }
        int three = seed(MAX - 40000000, 3);
        for (int n = 8; n >= -2; n--) {
            x.years(three, 1);
            due("less, 0 at least", x.of(15, 0), Math.max(0, n));
        }
        for (int d = 4; d < 12; d++) {
            x.mend(15, 0, 5);
            x.mend(32, 3, 1);
            due("else nothing, by " + d, x.years(seed(d * 1000, d), 1), 1);
            due("FIRE by " + d, x.of(15, 0), 5);
            due("DOOR by " + d, x.of(32, 11), 1);
        }
        SixWalls y = alone(15);
        int often = seed(0, 2, 3, 5, 6);
        y.mend(15, 0, 5);
        y.years(often, 4);
        due("z goes on from year to year", y.of(15, 0), 5);
        for (int n = 6; n < 9; n++) {
            y.years(often, 1);
            due("and begins anew with each call", y.of(15, 0), n);
        }
        SixWalls z = new SixWalls();
        due("nobody draws", dead(z).years(3, 20), 0);
        twenty();
    }

    private static SixWalls dead(SixWalls x) {
        for (int h = 0; h < 16; h++) x.empty(h);
        return x;
    }

    private static void births() {
        SixWalls x = alone(0);
        x.mend(0, 1, 7);
        due("a birth, then 1's own fire in that year", x.years(seed(0, 0, 2), 1), 2);
        due("in the first by numbers", x.of(1, 3), 1);
        due("with its WANT", x.of(1, 1), 7);
        due("the one that was born has drawn", x.of(1, 0), 1);
        due("the next by numbers", x.years(seed(0, 0, 5, 5), 1), 3);
        due("4", x.of(4, 3), 1);
        due("no DOOR by a birth", x.count(1), 0);
        SixWalls y = alone(15);
        y.years(seed(0, 0, 2, 4), 2);
        due("11 was born behind its turn and draws in the next year", y.of(11, 0), 1);
        due("then 15", y.of(15, 0), 0);
        SixWalls z = alone(15);
        z.years(seed(0, 0, 5, 0), 2);
        due("14 is the next empty one", z.of(14, 3), 1);
        due("three", z.count(0), 3);
        SixWalls full = new SixWalls();
        due("a birth with no empty neighbour", full.years(seed(0, 0, 0, 0, 0), 1), 16);
        for (int h = 0; h < 16; h++) crowd(h);
    }

    /** A house and those beside it are LIVED IN, so many that all but one draw nothing that matters: it a birth. */
    private static void crowd(int house) {
        SixWalls x = new SixWalls();
        int ahead = 0;
        int many = 1;
        for (int g = 0; g < 16; g++) {
            if (g == house) continue;
            boolean beside = x.wall(100 * house + g) >= 0;
            if (beside && g < house) ahead++;
            if (beside) many++;
            else x.empty(g);
        }
        for (int seed = 0; seed < 1000000; seed++) {
            int z = seed;
            boolean fits = true;
            for (int n = 0; n < many && fits; n++) {
                z = next(z);
                fits = n == ahead ? draw(z) == 0 : draw(z) > 3;
            }
            if (!fits) continue;
            due("all beside " + house + " are LIVED IN", x.years(seed, 1), many);
            return;
        }
        due("a seed for " + house, 0, 1);
    }

    private static void feuds() {
        SixWalls x = alone(5);
        due("a feud without a DOOR", x.years(seed(0, 1), 1), 1);
        for (int w : new int[] {4, 13, 15}) x.mend(w, 3, 1);
        x.mend(0, 3, 1);
        int one = seed(0, 1);
        int[] left = {13, 15};
        x.years(one, 1);
        due("the first of its WALLS", x.of(4, 11), 0);
        for (int w : left) due("no other", x.of(w, 11), 1);
        x.years(one, 1);
        due("the next", x.of(13, 11), 0);
        x.years(one, 1);
        due("the last", x.of(15, 11), 0);
        x.years(one, 1);
        due("not of others", x.of(0, 11), 1);
        due("FIRE stays", x.of(5, 0), 0);
        for (int h = 0; h < 16; h++) {
            SixWalls y = alone(h);
            int others = 0;
            for (int w = 0; w < 33; w++) {
                boolean its = y.of(w, 13) / 100 == h || y.of(w, 13) % 100 == h;
                if (!its) others += 1 - y.mend(w, 3, 1);
            }
            y.years(one, 1);
            due("DOORS of others than " + h, y.count(1), others);
            for (int w = 0; w < 33; w++) y.mend(w, 3, 1);
            for (int n = 0; n < y.of(h, 4); n++) y.years(one, 1);
            due("all DOORS of " + h + " are gone, no other", y.count(1), others);
        }
    }

    private static void twenty() {
        SixWalls x = new SixWalls();
        int[] fire = new int[16];
        for (int h = 0; h < 16; h++) {
            x.mend(h, 0, 9);
            fire[h] = 9;
        }
        int z = 77;
        for (int t = 0; t < 320; t++) {
            z = next(z);
            if (draw(z) == 2) fire[t % 16] = Math.min(9, fire[t % 16] + 1);
            if (draw(z) == 3) fire[t % 16] = Math.max(0, fire[t % 16] - 1);
        }
        due("20 years", x.years(77, 20), 16);
        for (int h = 0; h < 16; h++) due("FIRE of " + h, x.of(h, 0), fire[h]);
    }

    private static void led() {
        SixWalls x = warmer(60);
        SixWalls fresh = new SixWalls();
        for (int w = 0; w < 33; w++) due("no DAY yet", fresh.led(w), STATE);
        due("no such WALL is named ahead", fresh.led(33), VOID);
        due("no such WALL is named ahead", fresh.led(-1), VOID);
        fresh.warmth(0, 30);
        due("DAYS in thought are none", fresh.led(0), STATE);
        fresh.days(1);
        for (int w = 0; w < 33; w++) due("behind one DAY", fresh.led(w), 0);
        tell(x, "d=60?7;d=54-6-12?5;0");
        x.mend(5, 0, 9);
        // 80 and 9, less six times 7: 47 against 27; d 20, none goes
        x.days(1);
        due("from the lesser", x.led(13), 7);
        due("from the greater", x.led(4), -7);
        due("between others", x.led(0), 0);
        x.gave(13, 30);
        x.warmth(5, 30);
        x.still();
        x.leastFire(5, 9930);
        due("thought changes nothing", x.led(13), 7);
        due("a refused one, too", x.days(31), BAD);
        due("nor that", x.led(13), 7);
        x.days(1);
        due("the latest DAY alone", x.led(13), 0);
        // of several DAYS the last one
        SixWalls y = warmer(60);
        tell(y, "a/20");
        int before = y.gave(13, 4);
        int all = y.gave(13, 5);
        y.days(5);
        due("of five the last", y.led(13), all - before);
    }

    private static void changes() {
        SixWalls x = new SixWalls();
        due("none", x.count(4), 0);
        due("none to undo", x.undo(), STATE);
        due("none to redo", x.redo(), STATE);
        int[] first = {0, 4, 3, 0, 0, 2, 30};
        int[] asked = {0, 1, 10, 11, 12, 20, 21};
        for (int what = 0; what < 7; what++) {
            x.mend(0, what, first[what]);
            due("the same number, of " + what, x.count(4), what);
            x.mend(0, what, what == 6 ? 6 : 1);
            due("another, of " + what, x.count(4), what + 1);
            x.mend(0, what, what == 6 ? 6 : 1);
            due("the same again, of " + what, x.count(4), what + 1);
        }
        for (int what = 6; what >= 0; what--) {
            due("the latest first", x.undo(), what);
            due("of " + what, x.of(0, asked[what]), first[what]);
            if (what > 0) due("not the one ahead", x.of(0, asked[what - 1]), 1);
        }
        due("no more", x.undo(), STATE);
        for (int what = 0; what < 7; what++) {
            due("again", x.redo(), 6 - what);
            due("of " + what, x.of(0, asked[what]), what == 6 ? 6 : 1);
        }
        due("no more", x.redo(), STATE);
    }

    private static void doneAgain() {
        SixWalls x = new SixWalls();
        x.mend(3, 0, 5);
        x.mend(3, 0, 7);
        x.undo();
        x.mend(3, 0, 5);
        due("the same number is no other", x.redo(), 0);
        x.undo();
        x.mend(3, 0, 10);
        x.mend(16, 0, 1);
        due("a refused one is no other", x.redo(), 0);
        due("FIRE", x.of(3, 0), 7);
        x.undo();
        x.mend(4, 0, 1);
        due("another came behind", x.redo(), STATE);
        due("it is the latest", x.undo(), 1);
        due("and may be done again", x.redo(), 0);
        due("4", x.of(4, 0), 1);
        due("3", x.of(3, 0), 5);
        x.undo();
        x.undo();
        x.row(0, 0, 1);
        x.fires(0, 0, 1);
        x.empty(9);
        x.takes(9, 1);
        x.years(5, 3);
        x.image();
        x.days(2);
        x.back();
        due("what is no CHANGE is no other", x.redo(), 1);
        due("both", x.redo(), 0);
        due("two", x.count(4), 2);
    }

    private static void forty() {
        SixWalls x = new SixWalls();
        for (int n = 1; n <= 40; n++) {
            x.mend(0, 0, n % 10);
            due("so many", x.count(4), n);
        }
        for (int n = 39; n >= 0; n--) due("all of them", x.undo(), n);
        due("as at first", x.of(0, 0), 0);
        for (int n = 39; n >= 0; n--) due("all again", x.redo(), n);
        x.mend(1, 0, 5);
        due("the 41st: the oldest is gone", x.count(4), 40);
        for (int n = 39; n >= 0; n--) due("40 of them", x.undo(), n);
        due("no more", x.undo(), STATE);
        due("what the oldest had made", x.of(0, 0), 1);
        due("the 41st is undone", x.of(1, 0), 0);
        for (int n = 39; n >= 0; n--) due("40 again", x.redo(), n);
        due("the 41st again", x.of(1, 0), 5);
        // room for one: none is lost
        x.undo();
        x.mend(2, 0, 6);
        due("40", x.count(4), 40);
        due("no redo of what was there", x.redo(), STATE);
        for (int n = 39; n >= 0; n--) due("40 of them", x.undo(), n);
        due("the same oldest", x.of(0, 0), 1);
        SixWalls y = new SixWalls();
        for (int n = 0; n < 100; n++) y.mend(n % 16, 0, 1 + n / 16);
        for (int n = 39; n >= 0; n--) due("40 of 100", y.undo(), n);
        due("no more", y.undo(), STATE);
        for (int h = 0; h < 16; h++) due("FIRE of " + h, y.of(h, 0), h < 12 ? 4 : 3);
        sorts();
    }

    /** Changes of all sorts, more than are kept, undone and done again one by one. */
    private static void sorts() {
        SixWalls x = new SixWalls();
        int[] asked = {0, 1, 10, 11, 12, 20, 21};
        int[][] made = new int[45][];
        for (int n = 0; n < 45; n++) {
            int what = n * 3 % 7;
            int number = what < 5 ? n % 16 : 0;
            int was = x.of(number, asked[what]);
            int v = what == 3 ? 1 - was : what == 4 ? (was + 1) % 6 : what == 6 ? 6 + n : (was + 1 + n % 8) % 10;
            due("change " + n, x.mend(number, what, v), was);
            made[n] = new int[] {number, what, was, v};
        }
        for (int n = 44; n >= 5; n--) {
            due("undone " + n, x.undo(), n - 5);
            due("as ahead of " + n, x.of(made[n][0], asked[made[n][1]]), made[n][2]);
        }
        due("no more", x.undo(), STATE);
        for (int n = 5; n < 45; n++) {
            due("done again " + n, x.redo(), 44 - n);
            due("as behind " + n, x.of(made[n][0], asked[made[n][1]]), made[n][3]);
        }
        due("no more", x.redo(), STATE);
    }

    private static void image() {
        SixWalls x = apart();
        due("none", x.back(), STATE);
        due("none, still", x.back(), STATE);
        x.mend(5, 0, 3);
        x.empty(9);
        due("kept", x.image(), 320);
        x.days(2);
        x.empty(5);
        x.takes(9, 1);
        x.mend(6, 1, 8);
        x.mend(0, 6, 40);
        x.mend(0, 2, 5);
        x.mend(0, 4, 2);
        int door = x.count(1);
        int led = x.led(0);
        due("laid back", x.back(), 320);
        due("WARMTH", x.of(5, 2), 20);
        due("LIVED IN", x.of(5, 3), 1);
        due("not LIVED IN", x.of(9, 3), 0);
        due("FIRE is not kept", x.of(5, 0), 0);
        due("WANT is not kept", x.of(6, 1), 8);
        due("BEAR is not kept", x.of(0, 21), 40);
        due("THICK is not kept", x.of(0, 10), 5);
        due("COLOUR is not kept", x.of(0, 12), 2);
        due("DOORS are not kept", x.count(1), door);
        due("DAYS are not kept", x.count(2), 2);
        due("LED is not kept", x.led(0), led);
        due("CHANGES are not kept", x.count(4), 6);
        x.mend(5, 0, 4);
        x.days(1);
        due("once more", x.back(), 320);
        x.days(1);
        due("another image", x.image(), 324);
        x.days(1);
        due("the latest one", x.back(), 324);
        due("WARMTH of it", x.of(5, 2), 24);
        x.empty(5);
        x.takes(9, 1);
        due("who is LIVED IN now", x.image(), 324);
        x.takes(5, 1);
        x.empty(9);
        due("laid back", x.back(), 324);
        due("no longer LIVED IN, by the latest one", x.of(5, 3), 0);
        due("LIVED IN, by the latest one", x.of(9, 3), 1);
    }
}
