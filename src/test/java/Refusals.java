import java.util.ArrayList;
import java.util.Arrays;
import java.util.List;

/**
 * "What is answered so changes nothing": each refused call, and each in thought, on a comb of which all is looked at
 * behind it, against one that never heard the call. Which answer comes first is looked at as well.
 */
public final class Refusals extends Due {
    private static final long NONE = Long.MIN_VALUE;
    private static final int STATES = 4, NEW = 0, RICH = 1, CROWDED = 2, EMPTY = 3;

    private interface Act {
        long on(SixWalls x);
    }

    /** What has been seen of each state, by each look, without any call between. */
    private static final long[][][] SEEN = new long[STATES][3][];

    public static void main(String[] args) {
        for (int state = 0; state < STATES; state++) {
            for (int look = 0; look < 3; look++) SEEN[state][look] = seen(made(state), look);
        }
        sentence = "What is answered so changes nothing";
        houses();
        laws();
        winters();
        doors();
        deeds();
        cells();
        shelves();
        sentence = "in thought";
        thoughts();
        sentence = "Answers, of several the one named first";
        several();
        end();
    }

    // ---- states to begin with

    private static SixWalls made(int state) {
        switch (state) {
            case RICH: return rich();
            case CROWDED: return crowded();
            case EMPTY: return bare();
            default: return new SixWalls();
        }
    }

    /** Something of all there is: changes to undo and to do again, a law, an image, a row of each sort but one, a cell. */
    private static SixWalls rich() {
        SixWalls x = new SixWalls();
        for (int h = 0; h < 16; h += 3) x.mend(h, 0, 9 - h / 2);
        for (int h = 0; h < 16; h += 2) x.mend(h, 1, h / 2);
        for (int w = 0; w < 33; w += 4) x.mend(w, 2, w % 10);
        for (int w = 1; w < 33; w += 8) x.mend(w, 3, 1);
        for (int w = 2; w < 33; w += 6) x.mend(w, 4, w % 6);
        x.mend(0, 5, 1);
        tell(x, "d/(t+2)+o*2");
        x.days(3);
        x.empty(6);
        x.empty(12);
        x.image();
        x.days(2);
        x.empty(2);
        for (int kind = 0; kind < 8; kind++) x.body(kind);
        for (int sort = 0; sort < 4; sort++) x.row(sort, sort, 8 + sort);
        for (int sort = 0; sort < 4; sort++) for (int i = 0; i < 8; i++) x.put(sort, i, i == 5 ? -1 : 1 + i * sort);
        x.keep(4, 7);
        x.act(7, 3, 11);
        for (int n = 0; n < 3; n++) x.undo();
        for (char c : "d/4+(t".toCharArray()) x.feed(c);
        return x;
    }

    /** As much as is ever kept. */
    private static SixWalls crowded() {
        SixWalls x = new SixWalls();
        for (int n = 0; n < 50; n++) x.body(n % 8);
        for (int n = 0; n < 40; n++) x.mend(n % 16, 0, 1 + n / 16);
        for (int n = 0; n < 120; n++) x.feed(n % 2 == 0 ? '7' : '+');
        for (int s = 0; s < 6; s++) x.row(s, s % 5, 60);
        x.act(49, 3, 1);
        return x;
    }

    private static SixWalls bare() {
        SixWalls x = new SixWalls();
        for (int h = 0; h < 16; h++) x.empty(h);
        return x;
    }

    // ---- looks at all there is, each of them by less than 512 calls with those that made the state

    private static long[] seen(SixWalls x, int look) {
        List<Long> all = new ArrayList<>();
        if (look == 0) lookAtComb(x, all);
        else if (look == 1) lookAtShelves(x, all);
        else lookAtRest(x, all);
        return all.stream().mapToLong(v -> v).toArray();
    }

    private static void lookAtComb(SixWalls x, List<Long> all) {
        for (int h = 0; h < 16; h++) for (int what = 0; what < 4; what++) all.add((long) x.of(h, what));
        for (int w = 0; w < 33; w++) {
            for (int what : new int[] {10, 11, 12, 15}) all.add((long) x.of(w, what));
            all.add((long) x.led(w));
        }
        all.add((long) x.of(0, 20));
        all.add((long) x.of(0, 21));
        for (int what = 0; what < 7; what++) all.add((long) x.count(what));
    }

    private static void lookAtShelves(SixWalls x, List<Long> all) {
        for (int s = 0; s < 6; s++) {
            all.add((long) x.taken(s, 0));
            all.add((long) x.fires(s, 0, 1));
            for (int i = 0; i < 8; i++) all.add(x.element(s, i));
            // how long it is
            for (int i : new int[] {8, 9, 10, 11, 58, 59}) all.add((long) x.put(s, i, 1));
            // and of which sort: what it makes of a long of many bits
            x.put(s, 0, 0x123456789abcdefL);
            all.add(x.element(s, 0));
        }
        for (int b = 0; b < 50; b++) all.add((long) x.act(b, 3, 9));
    }

    private static void lookAtRest(SixWalls x, List<Long> all) {
        for (int i = 0; i < 24; i++) all.add((long) x.trace(i));
        int undone = 0;
        for (long n = x.undo(); n >= 0 && undone < 40; n = x.undo()) {
            undone++;
            all.add(n);
        }
        for (int h = 0; h < 16; h++) all.add((long) x.of(h, 0) * 10 + x.of(h, 1));
        for (int n = 0; n < 42; n++) all.add((long) x.redo());
        for (int h = 0; h < 16; h++) all.add((long) x.of(h, 0) * 10 + x.of(h, 1));
        x.mend(13, 2, 7);
        all.add((long) x.feed(')'));
        all.add((long) x.law());
        all.add((long) x.warmth(-1, 5));
        all.add((long) x.of(13, 15));
        all.add((long) x.back());
        all.add((long) x.count(0));
        all.add((long) x.warmth(-1, 5));
    }

    private static void untouched(int state, String call, long want, Act act) {
        for (int look = 0; look < 3; look++) {
            SixWalls x = made(state);
            due(call + " in state " + state, act.on(x), want);
            long[] then = seen(x, look);
            if (Arrays.equals(then, SEEN[state][look])) continue;
            due(call + " in state " + state + ": look " + look + " is another then", 1, 0);
        }
    }

    private static void refused(String call, long want, Act act) {
        for (int state = 0; state < STATES; state++) untouched(state, call, want, act);
    }

    // ---- refused calls

    private static void houses() {
        for (int ab : new int[] {-1, 16, 303, 1600, 1616, MIN, MAX}) refused("wall(" + ab + ")", BAD, x -> x.wall(ab));
        refused("wall(15)", NOT, x -> x.wall(15));
        int[] mosts = {9, 9, 9, 1, 5, 9, 54};
        for (int what = 0; what < 7; what++) {
            int told = what;
            int most = mosts[what];
            int least = what == 6 ? 6 : 0;
            int numbers = what < 2 ? 16 : what < 5 ? 33 : 1;
            refused("mend(0, " + what + "), above", BAD, x -> x.mend(0, told, most + 1));
            refused("mend(0, " + what + "), below", BAD, x -> x.mend(0, told, least - 1));
            refused("mend(0, " + what + "), far above", BAD, x -> x.mend(0, told, MAX));
            refused("mend(0, " + what + "), far below", BAD, x -> x.mend(0, told, MIN));
            refused("mend(-1, " + what + ")", BAD, x -> x.mend(-1, told, most));
            refused("mend(" + numbers + ", " + what + ")", BAD, x -> x.mend(numbers, told, most));
            refused("mend(MIN, " + what + ")", BAD, x -> x.mend(MIN, told, most));
            untouched(NEW, "the same number of " + what, what == 6 ? 30 : new int[] {0, 4, 3, 0, 0, 2}[what % 6],
                x -> x.mend(0, told, new int[] {0, 4, 3, 0, 0, 2, 30}[told]));
        }
        for (int what : new int[] {-1, 7, MIN, MAX}) refused("mend(0, " + what + ")", BAD, x -> x.mend(0, what, 1));
        for (int what : new int[] {-1, 6, 9, 16, 19, 22}) refused("of(0, " + what + ")", VOID, x -> x.of(0, what));
        for (int what = 0; what < 22; what++) {
            int asked = what;
            refused("of(-1, " + what + ")", VOID, x -> x.of(-1, asked));
            refused("of(33, " + what + ")", VOID, x -> x.of(33, asked));
        }
        for (int hn : new int[] {-1, 0, 17, 1500, 1517, 1601, MIN, MAX}) refused("fires(0, 0, " + hn + ")", BAD, x -> x.fires(0, 0, hn));
        refused("fires(6, 0, 1)", BAD, x -> x.fires(6, 0, 1));
        refused("fires(-1, 0, 1)", BAD, x -> x.fires(-1, 0, 1));
        untouched(RICH, "fires of shorts", -12, x -> x.fires(1, 0, 16));
        untouched(RICH, "fires of a cell", -12, x -> x.fires(4, 0, 16));
        untouched(CROWDED, "fires of booleans", -12, x -> x.fires(4, 0, 16));
        untouched(RICH, "fires of nothing", 0, x -> x.fires(5, 0, 16));
        untouched(RICH, "fires behind the end", 0, x -> x.fires(0, 8, 16));
        untouched(RICH, "fires from one that is not so", 0, x -> x.fires(0, 5, 16));
        untouched(RICH, "fires from ahead", 0, x -> x.fires(0, -1, 16));
    }

    private static void laws() {
        for (int letter : new int[] {-1, 256, MIN, MAX}) refused("feed(" + letter + ")", BAD, x -> x.feed(letter));
        for (int letter : new int[] {0, 100, 255}) untouched(CROWDED, "feed(" + letter + ")", FULL, x -> x.feed(letter));
        untouched(NEW, "law() of nothing", -100, SixWalls::law);
        // the tape is empty then, but the law stays
        SixWalls x = rich();
        int[] flows = new int[33];
        for (int w = 0; w < 33; w++) flows[w] = x.of(w, 15);
        due("a fault", x.law(), -106);
        for (int w = 0; w < 33; w++) due("as it was", x.of(w, 15), flows[w]);
        due("the tape is empty", x.count(3), 0);
    }

    private static void winters() {
        for (int k : new int[] {-1, 31, MIN, MAX}) {
            refused("warmth(0, " + k + ")", BAD, x -> x.warmth(0, k));
            refused("warmth(-1, " + k + ")", BAD, x -> x.warmth(-1, k));
            refused("cold(20, " + k + ")", BAD, x -> x.cold(20, k));
            refused("gave(0, " + k + ")", VOID, x -> x.gave(0, k));
            refused("days(" + k + ")", BAD, x -> x.days(k));
            refused("where(" + k + ")", BAD, x -> x.where(k));
            refused("cold(" + (k == 31 ? 100 : k) + ", 0)", BAD, x -> x.cold(k == 31 ? 100 : k, 0));
        }
        refused("days(0)", BAD, x -> x.days(0));
        for (int h : new int[] {-2, 16, MIN, MAX}) refused("warmth(" + h + ", 0)", BAD, x -> x.warmth(h, 0));
        for (int h : new int[] {-1, 16, MIN, MAX}) refused("leastFire(" + h + ", 0)", BAD, x -> x.leastFire(h, 0));
        for (int wk : new int[] {-1, 31, 99, 10000, 9931, MIN, MAX}) refused("leastFire(5, " + wk + ")", BAD, x -> x.leastFire(5, wk));
        refused("leastFire(0, 9900)", NOT, x -> x.leastFire(0, 9900));
        untouched(NEW, "leastFire(0, 9930)", NOT, x -> x.leastFire(0, 9930));
        for (int w : new int[] {-1, 33, MIN, MAX}) {
            refused("gave(" + w + ", 1)", VOID, x -> x.gave(w, 1));
            refused("led(" + w + ")", VOID, x -> x.led(w));
            if (w != -1) refused("rounds(" + w + ")", BAD, x -> x.rounds(w));
        }
        refused("rounds(-2)", BAD, x -> x.rounds(-2));
        untouched(NEW, "led(0)", STATE, x -> x.led(0));
        untouched(EMPTY, "led(32)", STATE, x -> x.led(32));
    }

    private static void doors() {
        for (int ab : new int[] {-1, 16, 1600, 1616, MIN, MAX}) {
            refused("way(" + ab + ")", BAD, x -> x.way(ab));
            refused("heard(" + ab + ", 9)", BAD, x -> x.heard(ab, 9));
        }
        untouched(NEW, "way(1)", NOT, x -> x.way(1));
        untouched(RICH, "way(915)", NOT, x -> x.way(915));
        for (int what : new int[] {-1, 2, MIN, MAX}) {
            refused("doors(" + what + ")", BAD, x -> x.doors(what));
            refused("opened(" + what + ")", NONE, x -> x.opened(what));
        }
        for (int loud : new int[] {-1, 100, MIN, MAX}) {
            refused("heard(5, " + loud + ")", BAD, x -> x.heard(5, loud));
            refused("whose(" + loud + ", 0)", BAD, x -> x.whose(loud, 0));
        }
        for (int told : new int[] {-1, 65536, MIN, MAX}) refused("whose(9, " + told + ")", BAD, x -> x.whose(9, told));
        for (int what : new int[] {-1, 3, MIN, MAX}) refused("colours(" + what + ")", BAD, x -> x.colours(what));
        for (int w : new int[] {-1, 33, MIN, MAX}) refused("paint(" + w + ")", BAD, x -> x.paint(w));
    }

    private static void deeds() {
        for (int h : new int[] {-1, 16, MIN, MAX}) {
            refused("empty(" + h + ")", BAD, x -> x.empty(h));
            refused("takes(" + h + ", 0)", BAD, x -> x.takes(h, 0));
            refused("takes(" + h + ", 1)", BAD, x -> x.takes(h, 1));
        }
        untouched(RICH, "empty(6)", STATE, x -> x.empty(6));
        for (int h = 0; h < 16; h++) {
            int house = h;
            untouched(EMPTY, "empty(" + h + ")", STATE, x -> x.empty(house));
            untouched(EMPTY, "takes(" + h + ", 1)", NOT, x -> x.takes(house, 1));
            untouched(NEW, "takes(" + h + ", 0)", STATE, x -> x.takes(house, 0));
            untouched(NEW, "takes(" + h + ", 1)", STATE, x -> x.takes(house, 1));
        }
        for (int what : new int[] {-1, 2, MIN, MAX}) refused("takes(6, " + what + ")", BAD, x -> x.takes(6, what));
        untouched(NEW, "where(5)", NOT, x -> x.where(5));
        untouched(CROWDED, "where(0)", NOT, x -> x.where(0));
        for (int n : new int[] {-1, 0, 21, MIN, MAX}) refused("years(5, " + n + ")", BAD, x -> x.years(5, n));
        untouched(EMPTY, "years where nobody lives", 0, x -> x.years(5, 20));
        untouched(NEW, "back()", STATE, SixWalls::back);
        untouched(CROWDED, "back()", STATE, SixWalls::back);
        untouched(NEW, "undo()", STATE, SixWalls::undo);
        untouched(NEW, "redo()", STATE, SixWalls::redo);
        untouched(CROWDED, "redo()", STATE, SixWalls::redo);
    }

    private static void cells() {
        for (int kind : new int[] {-1, 8, MIN, MAX}) refused("body(" + kind + ")", BAD, x -> x.body(kind));
        for (int kind = 0; kind < 8; kind++) {
            int k = kind;
            untouched(CROWDED, "body(" + kind + ")", FULL, x -> x.body(k));
        }
        for (int i : new int[] {-1, 24, MIN, MAX}) refused("trace(" + i + ")", BAD, x -> x.trace(i));
        untouched(NEW, "trace(0)", BAD, x -> x.trace(0));
        untouched(NEW, "an ACT of none", 0, x -> x.act(0, 0, 5));
        for (int body : new int[] {-2, 50, MIN, MAX}) refused("keep(0, " + body + ")", BAD, x -> x.keep(0, body));
        untouched(RICH, "keep(0, 8)", BAD, x -> x.keep(0, 8));
        for (int what : new int[] {-1, 7, MIN, MAX}) refused("count(" + what + ")", BAD, x -> x.count(what));
    }

    private static void shelves() {
        for (int s : new int[] {-1, 6, MIN, MAX}) {
            refused("keep(" + s + ", -1)", BAD, x -> x.keep(s, -1));
            refused("row(" + s + ", 0, 1)", BAD, x -> x.row(s, 0, 1));
            refused("put(" + s + ", 0, 1)", BAD, x -> x.put(s, 0, 1));
            refused("element(" + s + ", 0)", NONE, x -> x.element(s, 0));
            refused("shift(" + s + ", 0, 0, 0, 1)", BAD, x -> x.shift(s, 0, 0, 0, 1));
            refused("shift(0, 0, " + s + ", 0, 1)", BAD, x -> x.shift(0, 0, s, 0, 1));
            refused("taken(" + s + ", 0)", BAD, x -> x.taken(s, 0));
        }
        for (int shelf = 0; shelf < 6; shelf++) {
            int s = shelf;
            for (int sort : new int[] {-1, 5, MIN, MAX}) refused("row(" + s + ", " + sort + ", 3)", BAD, x -> x.row(s, sort, 3));
            for (int n : new int[] {61, MAX}) refused("row(" + s + ", 0, " + n + ")", BAD, x -> x.row(s, 0, n));
            for (int n : new int[] {-1, MIN}) refused("row(" + s + ", 0, " + n + ")", -14, x -> x.row(s, 0, n));
            for (int k : new int[] {-1, 8}) refused("taken(" + s + ", " + k + ")", BAD, x -> x.taken(s, k));
            untouched(NEW, "put on nothing", -11, x -> x.put(s, 0, 1));
            untouched(NEW, "taken of nothing", -11, x -> x.taken(s, 0));
            untouched(NEW, "shift of nothing", -11, x -> x.shift(s, 0, 5 - s, 0, 1));
            for (int i : new int[] {-1, 60, MIN, MAX}) {
                untouched(CROWDED, "put at " + i, -13, x -> x.put(s, i, 1));
                untouched(CROWDED, "element at " + i, NONE, x -> x.element(s, i));
                untouched(CROWDED, "shift from " + i, -13, x -> x.shift(s, i, s, 0, 1));
                untouched(CROWDED, "shift to " + i, -13, x -> x.shift(s, 0, s, i, 1));
            }
            untouched(CROWDED, "shift of 61", -13, x -> x.shift(s, 0, s, 0, 61));
            untouched(CROWDED, "shift of -1", -13, x -> x.shift(s, 1, s, 1, -1));
            untouched(CROWDED, "shift of unlike ones", -12, x -> x.shift(s, 0, s == 0 ? 1 : s - 1 == 4 ? 4 : s - 1, 0, 3));
            untouched(CROWDED, "shift of none", 0, x -> x.shift(s, 60, s, 0, 0));
        }
        for (int i = -1; i < 9; i++) {
            int place = i;
            untouched(RICH, "put on a cell", -12, x -> x.put(4, place, 1));
            untouched(RICH, "element of a cell", NONE, x -> x.element(4, place));
            untouched(RICH, "shift of a cell", -12, x -> x.shift(4, place, 0, 0, 1));
            untouched(RICH, "shift to a cell", -12, x -> x.shift(0, 0, 4, place, 1));
        }
        untouched(RICH, "shift over the end of the one", -13, x -> x.shift(0, 1, 0, 0, 8));
        untouched(RICH, "shift over the end of the other", -13, x -> x.shift(0, 0, 0, 1, 8));
        untouched(RICH, "taken for another kind", -12, x -> x.taken(4, 2));
        untouched(RICH, "taken of a row", -12, x -> x.taken(0, 0));
    }

    // ---- what is answered in thought

    private static void thoughts() {
        for (int state = 0; state < STATES; state++) {
            SixWalls y = made(state);
            thought(state, y, "wall", x -> x.wall(1415));
            thought(state, y, "of", x -> x.of(13, 14));
            thought(state, y, "of", x -> x.of(13, 15));
            thought(state, y, "warmth", x -> x.warmth(-1, 30));
            thought(state, y, "warmth", x -> x.warmth(9, 1));
            thought(state, y, "cold", x -> x.cold(20, 30));
            thought(state, y, "still", SixWalls::still);
            thought(state, y, "gave", x -> x.gave(13, 30));
            thought(state, y, "leastFire", x -> x.leastFire(9, 2530));
            thought(state, y, "rounds", x -> x.rounds(-1));
            thought(state, y, "rounds", x -> x.rounds(32));
            thought(state, y, "way", x -> x.way(15));
            thought(state, y, "doors", x -> x.doors(0));
            thought(state, y, "opened", x -> x.opened(1));
            thought(state, y, "heard", x -> x.heard(15, 99));
            thought(state, y, "whose", x -> x.whose(10, 18));
            for (int what = 0; what < 3; what++) {
                int asked = what;
                thought(state, y, "colours", x -> x.colours(asked));
            }
            thought(state, y, "paint", x -> x.paint(32));
            thought(state, y, "takes", x -> x.takes(6, 0));
            thought(state, y, "where", x -> x.where(30));
            thought(state, y, "trace", x -> x.trace(0));
            thought(state, y, "element", x -> x.element(0, 0));
            thought(state, y, "taken", x -> x.taken(4, 4));
            for (int what = 0; what < 7; what++) {
                int asked = what;
                thought(state, y, "count", x -> x.count(asked));
            }
        }
    }

    /** The same answer again from one that has been asked all the others, too. */
    private static void thought(int state, SixWalls asked, String call, Act act) {
        untouched(state, call, act.on(asked), act);
    }

    // ---- of several answers the one named first

    private static void several() {
        // BAD ahead of NOT, FULL, STATE
        due("way of no house, by no door", new SixWalls().way(1600), BAD);
        due("a 121st byte that is none", crowded().feed(256), BAD);
        due("a 51st body of no kind", crowded().body(8), BAD);
        due("no such house is empty", bare().empty(16), BAD);
        due("an empty house that is LIVED IN, by what is not", new SixWalls().takes(0, 2), BAD);
        due("nobody beside a house, by what is not", bare().takes(0, 2), BAD);
        due("where behind too many days, all LIVED IN", new SixWalls().where(31), BAD);
        due("a warmth above 99, that no fire gives", new SixWalls().leastFire(0, 10030), BAD);
        due("led of no wall, by no day", new SixWalls().led(33), VOID);
        // BAD ahead of -11 to -14
        SixWalls x = rich();
        due("fires of shorts for no house", x.fires(1, 0, 1601), BAD);
        due("fires of a cell, none of them", x.fires(4, 0, 0), BAD);
        due("row of no sort, below 0", x.row(0, 5, -1), BAD);
        due("row on no shelf, below 0", x.row(6, 0, -1), BAD);
        due("shift of a cell to no shelf", x.shift(4, 0, 6, 0, 1), BAD);
        due("shift of nothing to no shelf", x.shift(5, 0, -1, 0, 1), BAD);
        due("taken of nothing for no kind", x.taken(5, 8), BAD);
        due("taken of a row for no kind", x.taken(0, -1), BAD);
        // -11 ahead of -12 and -13, -12 ahead of -13
        due("put on nothing, at no place", x.put(5, -1, 1), -11);
        due("put on a cell, at no place", x.put(4, 60, 1), -12);
        due("shift of a cell to nothing", x.shift(4, 0, 5, 0, 1), -11);
        due("shift of nothing to a cell", x.shift(5, 0, 4, 0, 1), -11);
        due("shift of nothing, from no place", x.shift(5, -1, 0, 0, 1), -11);
        due("shift of unlike rows, from no place", x.shift(0, -1, 1, 0, 1), -12);
        due("shift of a cell, from no place", x.shift(4, -1, 1, 0, 1), -12);
        due("shift of a row to itself, from no place", x.shift(1, -1, 1, 0, 1), -13);
    }
}
