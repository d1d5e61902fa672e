/** Sentence by sentence of the document's "Terms", part 5, cells and shelves: ends, what is beside them, empty and full. */
public final class EdgesOfShelves extends Due {
    private static final long NONE = Long.MIN_VALUE;
    /** The lowest and the highest that a row of a sort keeps. */
    private static final long[] LEAST = {-128, -32768, MIN, Long.MIN_VALUE, 0};
    private static final long[] MOST = {127, 32767, MAX, Long.MAX_VALUE, 1};

    public static void main(String[] args) {
        sentence = "BODIES 0 .. 49"; bodies();
        sentence = "KINDS: 0 CELL .. 7 QUEEN"; kinds();
        sentence = "ACTS with x: 0 warms, 1 walls, 2 pipes, 3 tells"; acts();
        sentence = "x (an int that wraps); n its number"; wraps();
        sentence = "the body of its own KIND, or of the next KIND above that has one; super: from the KIND above the body's on"; above();
        sentence = "THE TRACE: the first 24 are kept"; traced();
        sentence = "0, and no TRACE then: no such CELL, ACT"; untraced();
        sentence = "SHELVES 0 .. 5 each hold nothing (at first), a CELL, or a ROW"; held();
        sentence = "a ROW of 0 .. 60 elements, 0 at first (false)"; rows();
        sentence = "what is put in keeps its lowest bits (a boolean: whether it is not 0; 1 or 0)"; lowest();
        sentence = "-13 a place that is not there"; places();
        sentence = "-14 a size below 0"; sizes();
        sentence = "-11 nothing is there; -12 it is of another kind"; refused();
        sentence = "n elements of a ROW come to another one (or the same), as they all were before"; shifted();
        sentence = "a SHELF for a CELL of KIND k, or under it: its KIND"; taken();
        sentence = "FIRES FROM A ROW: it ends where the row is missing, ends, one is not so, or behind HOUSE 15"; fires();
        sentence = "count: BAD"; counts();
        end();
    }

    private static SixWalls withAll() {
        SixWalls x = new SixWalls();
        for (int kind = 0; kind < 8; kind++) x.body(kind);
        return x;
    }

    // ---- cells

    private static void bodies() {
        SixWalls x = new SixWalls();
        due("none", x.count(5), 0);
        due("not kept yet", x.keep(0, 0), BAD);
        for (int n = 0; n < 50; n++) {
            due("its number", x.body(0), n);
            due("how many", x.count(5), n + 1);
            due("it is there", x.keep(0, n), 1);
            due("the next is not", x.keep(0, n + 1), BAD);
        }
        for (int kind = 0; kind < 8; kind++) due("a 51st", x.body(kind), FULL);
        due("BAD is named ahead of FULL", x.body(8), BAD);
        due("BAD is named ahead of FULL", x.body(-1), BAD);
        due("how many", x.count(5), 50);
        due("the last acts", x.act(49, 0, 1), 50);
        due("and by its number", x.act(49, 2, 0), 49);
        due("50 does not", x.act(50, 0, 1), 0);
    }

    private static void kinds() {
        bounds("body(kind)", 0, 7, BAD, SixWalls::body);
        SixWalls x = withAll();
        for (int kind = 0; kind < 8; kind++) {
            x.keep(0, kind);
            due("its KIND", x.taken(0, kind), kind);
        }
    }

    private static void acts() {
        SixWalls x = withAll();
        for (int act = 0; act < 4; act++) {
            x.act(0, act, 5);
            due("act " + act + " runs", x.count(6) > 0 ? 1 : 0, 1);
        }
        for (int act : new int[] {-1, 4, 5, MIN, MAX}) {
            due("act " + act, x.act(0, act, 5), 0);
            due("act " + act + " ran", x.count(6), 0);
        }
        for (int body : new int[] {-1, 8, 49, 50, MIN, MAX}) {
            due("body " + body, x.act(body, 0, 5), 0);
            due("body " + body + " ran", x.count(6), 0);
        }
        due("none at first", new SixWalls().act(0, 0, 5), 0);
    }

    /** What each KIND's own bodies give, by the document's lines, with n the number of the cell. */
    private static int warms(int kind, int n, int x) {
        switch (kind) {
            case 1: case 4: case 7: return x + n + 3;
            case 6: return (x + n) * 2;
            default: return x + n;
        }
    }

    private static int walls(int kind, int n, int x) {
        switch (kind) {
            case 2: return -(warms(kind, n, x) * 2);
            case 3: case 5: return -(warms(kind, n, x + 1) * 2);
            case 7: return warms(kind, n, x) * 2 + pipes(kind, n, 2);
            default: return warms(kind, n, x) * 2;
        }
    }

    private static int pipes(int kind, int n, int x) {
        switch (kind) {
            case 3: case 5: return (x ^ n) * 3;
            case 4: case 7: return (x ^ n) - warms(kind, n, 2);
            default: return x ^ n;
        }
    }

    private static int tells(int kind, int n, int x) {
        int plain = walls(kind, n, x) - pipes(kind, n, 1);
        return kind == 5 ? plain ^ 5 : kind == 7 ? plain - 1 : plain;
    }

    private static void all(SixWalls x, int body, int kind, int v) {
        String at = "kind " + kind + ", n " + body + ", x " + v;
        due(at + " warms", x.act(body, 0, v), warms(kind, body, v));
        due(at + " walls", x.act(body, 1, v), walls(kind, body, v));
        due(at + " pipes", x.act(body, 2, v), pipes(kind, body, v));
        due(at + " tells", x.act(body, 3, v), tells(kind, body, v));
    }

    private static void wraps() {
        SixWalls x = withAll();
        for (int kind = 0; kind < 8; kind++) {
            for (int v : new int[] {MIN, MIN + 1, MIN / 2, MIN / 2 - 1, MAX / 2 + 1, MAX - 3, MAX}) all(x, kind, kind, v);
        }
        due("MAX and 1", x.act(1, 2, 0), 1);
        due("above MAX: MIN on", x.act(1, 0, MAX), MIN + 3);
        due("twice", x.act(0, 1, MAX), -2);
        due("twice MIN", x.act(0, 1, MIN), 0);
    }

    private static void above() {
        for (int n = 0; n < 50; n += 7) {
            SixWalls x = new SixWalls();
            for (int b = 0; b < n; b++) x.body(0);
            for (int kind = 0; kind < 8; kind++) x.body(kind);
            for (int kind = 0; kind < 8 && n + kind < 50; kind++) {
                all(x, n + kind, kind, 0);
                all(x, n + kind, kind, 5);
                all(x, n + kind, kind, -9);
            }
        }
    }

    private static void ran(SixWalls x, int kind, int act, int... bodies) {
        x.act(kind, act, 5);
        due("how many ran", x.count(6), bodies.length);
        for (int i = 0; i < bodies.length; i++) due("trace " + i + " of kind " + kind + ", act " + act, x.trace(i), bodies[i]);
        for (int i : new int[] {bodies.length, 23, 24, 25, -1, MIN, MAX}) due("trace " + i, x.trace(i), BAD);
    }

    private static void traced() {
        SixWalls fresh = new SixWalls();
        due("none at first", fresh.count(6), 0);
        due("none at first", fresh.trace(0), BAD);
        SixWalls x = withAll();
        ran(x, 0, 0, 1);
        ran(x, 0, 1, 10, 1);
        ran(x, 0, 2, 11);
        ran(x, 0, 3, 2, 10, 1, 11);
        ran(x, 1, 0, 20, 1);
        ran(x, 1, 1, 10, 20, 1);
        ran(x, 2, 1, 30, 10, 1);
        ran(x, 3, 1, 41, 30, 10, 1);
        ran(x, 3, 2, 40, 11);
        ran(x, 4, 2, 50, 11, 20, 1);
        SixWalls y = withAll();
        ran(y, 5, 0, 1);
        ran(y, 5, 1, 41, 30, 10, 1);
        ran(y, 5, 2, 40, 11);
        ran(y, 5, 3, 60, 2, 41, 30, 10, 1, 40, 11);
        ran(y, 6, 0, 70, 1);
        ran(y, 6, 3, 2, 10, 70, 1, 11);
        ran(y, 7, 1, 80, 10, 20, 1, 50, 11, 20, 1);
        // the longest that there is: no more than 24 ever run
        ran(y, 7, 3, 81, 2, 80, 10, 20, 1, 50, 11, 20, 1, 50, 11, 20, 1);
        ran(y, 0, 2, 11);
    }

    private static void untraced() {
        int[][] none = {{8, 0}, {-1, 0}, {0, 4}, {0, -1}, {8, 4}, {50, 3}, {MIN, MIN}, {MAX, MAX}};
        for (int[] one : none) {
            SixWalls x = withAll();
            x.act(7, 3, 1);
            due("ran", x.count(6), 14);
            due("no such", x.act(one[0], one[1], 9), 0);
            due("how many ran", x.count(6), 0);
            for (int i = 0; i < 25; i++) due("trace " + i, x.trace(i), BAD);
        }
        // what is refused elsewhere leaves it
        SixWalls x = withAll();
        x.act(0, 3, 1);
        x.body(8);
        x.keep(0, 99);
        x.trace(99);
        due("kept", x.count(6), 4);
        due("kept", x.trace(3), 11);
    }

    // ---- shelves

    private static void held() {
        bounds("keep(shelf, -1)", 0, 5, BAD, (x, s) -> x.keep(s, -1));
        bounds("row(shelf, 0, 1)", 0, 5, BAD, (x, s) -> x.row(s, 0, 1));
        bounds("put(shelf, 0, 1)", 0, 5, BAD, (x, s) -> x.put(s, 0, 1));
        bounds("fires(shelf, 0, 1)", 0, 5, BAD, (x, s) -> x.fires(s, 0, 1));
        bounds("taken(shelf, 0)", 0, 5, BAD, (x, s) -> x.taken(s, 0));
        bounds("shift(shelf, 0, 0, 0, 0)", 0, 5, BAD, (x, s) -> x.shift(s, 0, 0, 0, 0));
        bounds("shift(0, 0, shelf, 0, 0)", 0, 5, BAD, (x, s) -> x.shift(0, 0, s, 0, 0));
        for (int s : new int[] {-1, 6, MIN, MAX}) due("element of SHELF " + s, withRows(60).element(s, 0), NONE);
        SixWalls x = withAll();
        for (int s = 0; s < 6; s++) {
            due("nothing at first", x.put(s, 0, 1), -11);
            due("nothing at first", x.taken(s, 0), -11);
            due("nothing at first", x.element(s, 0), NONE);
            due("nothing: a row is missing", x.fires(s, 0, 1), 0);
        }
        for (int s = 0; s < 6; s++) due("a ROW", x.row(s, s % 5, s), 1);
        for (int s = 0; s < 6; s++) {
            due("its last", x.put(s, s - 1, 1), s == 0 ? -13 : 1);
            due("behind it", x.put(s, s, 1), -13);
        }
        for (int s = 0; s < 6; s++) due("a CELL", x.keep(s, s), 1);
        for (int s = 0; s < 6; s++) {
            due("a CELL", x.taken(s, 0), s);
            due("no ROW", x.put(s, 0, 1), -12);
        }
        for (int s = 0; s < 6; s++) due("nothing", x.keep(s, -1), 1);
        for (int s = 0; s < 6; s++) due("nothing", x.taken(s, 0), -11);
        due("nothing for nothing", x.keep(0, -1), 1);
        for (int body : new int[] {-2, 8, 50, MIN, MAX}) due("keep " + body, x.keep(0, body), BAD);
        due("one CELL on two", x.keep(0, 7) + x.keep(1, 7), 2);
        due("both", x.taken(0, 7) + x.taken(1, 7), 14);
    }

    /** A ROW of each sort, on the SHELF of its number. */
    private static SixWalls withRows(int n) {
        SixWalls x = new SixWalls();
        for (int sort = 0; sort < 5; sort++) due("a ROW", x.row(sort, sort, n), 1);
        return x;
    }

    private static void rows() {
        bounds("row(0, sort, 1)", 0, 4, BAD, (x, sort) -> x.row(0, sort, 1));
        for (int sort = 0; sort < 5; sort++) {
            for (int n = 0; n <= 60; n++) {
                SixWalls x = new SixWalls();
                due("of " + n, x.row(0, sort, n), 1);
                for (int i = 0; i < n; i++) due("0 at first", x.element(0, i), 0);
                due("none behind", x.put(0, n, 1), -13);
                due("none behind", x.element(0, n), NONE);
            }
            for (int n : new int[] {61, 62, 100, MAX}) due("of " + n, new SixWalls().row(0, sort, n), BAD);
        }
        for (int sort = 0; sort < 5; sort++) {
            SixWalls x = withRows(60);
            for (int i = 0; i < 60; i++) x.put(sort, i, 1);
            due("shorter", x.row(sort, sort, 10), 1);
            due("0 at first", x.element(sort, 0), 0);
            due("longer again", x.row(sort, (sort + 1) % 5, 60), 1);
            for (int i = 0; i < 60; i++) due("0 at first", x.element(sort, i), 0);
        }
    }

    private static void lowest() {
        SixWalls x = withRows(1);
        for (int sort = 0; sort < 4; sort++) {
            long[] all = {LEAST[sort], MOST[sort], LEAST[sort] - 1, MOST[sort] + 1, 0, 1, -1};
            long[] kept = {LEAST[sort], MOST[sort], MOST[sort], LEAST[sort], 0, 1, -1};
            for (int n = 0; n < all.length; n++) {
                due("put " + all[n], x.put(sort, 0, all[n]), 1);
                due("kept of sort " + sort + ": " + all[n], x.element(sort, 0), kept[n]);
            }
        }
        long[] wide = {256, 65536, 1L << 32, 1L << 62};
        for (int sort = 0; sort < 4; sort++) {
            x.put(sort, 0, wide[sort]);
            due("the lowest bits are 0", x.element(sort, 0), sort == 3 ? wide[3] : 0);
            x.put(sort, 0, wide[sort] + 5);
            due("the lowest bits are 5", x.element(sort, 0), sort == 3 ? wide[3] + 5 : 5);
            x.put(sort, 0, -wide[sort] - 5);
            due("the lowest bits are -5", x.element(sort, 0), sort == 3 ? -wide[3] - 5 : -5);
        }
        for (long v : new long[] {1, -1, 2, 256, 65536, 1L << 32, Long.MIN_VALUE, Long.MAX_VALUE}) {
            x.put(4, 0, v);
            due("not 0: " + v, x.element(4, 0), 1);
            x.put(4, 0, 0);
            due("0", x.element(4, 0), 0);
        }
        due("the least long is an element, too", x.put(3, 0, Long.MIN_VALUE), 1);
        due("as it is", x.element(3, 0), Long.MIN_VALUE);
    }

    private static void places() {
        for (int n : new int[] {1, 7, 60}) {
            SixWalls x = withRows(n);
            for (int sort = 0; sort < 5; sort++) {
                due("the first", x.put(sort, 0, 1), 1);
                due("the last", x.put(sort, n - 1, 1), 1);
                due("the first", x.element(sort, 0), 1);
                due("the last", x.element(sort, n - 1), 1);
                for (int i : new int[] {-1, n, n + 1, MIN, MAX}) {
                    due("place " + i, x.put(sort, i, 1), -13);
                    due("place " + i, x.element(sort, i), NONE);
                }
            }
        }
        SixWalls none = withRows(0);
        for (int sort = 0; sort < 5; sort++) {
            due("no place at all", none.put(sort, 0, 1), -13);
            due("no place at all", none.put(sort, -1, 1), -13);
            due("no place at all", none.element(sort, 0), NONE);
        }
    }

    private static void sizes() {
        for (int n : new int[] {-1, -2, MIN}) {
            for (int sort = 0; sort < 5; sort++) {
                SixWalls x = withRows(3);
                x.put(sort, 2, 1);
                due("size " + n, x.row(sort, sort, n), -14);
                due("as it was", x.element(sort, 2), 1);
                due("on a bare one", x.row(5, sort, n), -14);
                due("bare", x.taken(5, 0), -11);
            }
            due("BAD is named ahead of -14: sort", new SixWalls().row(0, 5, n), BAD);
            due("BAD is named ahead of -14: sort", new SixWalls().row(0, -1, n), BAD);
            due("BAD is named ahead of -14: shelf", new SixWalls().row(6, 0, n), BAD);
        }
    }

    /** SHELF 0 bytes, 1 shorts, 2 ints, 3 of no elements, 4 a CELL, 5 nothing. */
    private static SixWalls mixed() {
        SixWalls x = withAll();
        for (int sort = 0; sort < 3; sort++) x.row(sort, sort, 4);
        x.row(3, 2, 0);
        x.keep(4, 7);
        return x;
    }

    private static void refused() {
        SixWalls x = mixed();
        for (int i : new int[] {-1, 0, 60, MIN, MAX}) {
            due("put on nothing", x.put(5, i, 1), -11);
            due("put on a CELL", x.put(4, i, 1), -12);
            due("element of nothing", x.element(5, i), NONE);
            due("element of a CELL", x.element(4, i), NONE);
            due("no such SHELF", x.put(6, i, 1), BAD);
        }
        // shelf, other, what is named first, whatever the places are
        int[][] all = {{6, 0, BAD}, {0, 6, BAD}, {-1, 5, BAD}, {5, -1, BAD}, {4, 6, BAD}, {6, 4, BAD}, {5, 0, -11}, {0, 5, -11}, {5, 5, -11},
            {4, 5, -11}, {5, 4, -11}, {4, 0, -12}, {0, 4, -12}, {4, 4, -12}, {0, 1, -12}, {1, 2, -12}, {2, 0, -12}, {0, 3, -12}};
        for (int[] one : all) {
            due("shift of none", x.shift(one[0], 0, one[1], 0, 0), one[2]);
            due("shift of one", x.shift(one[0], 0, one[1], 0, 1), one[2]);
            due("shift beside", x.shift(one[0], -1, one[1], 99, -1), one[2]);
        }
        due("like sorts: a place", x.shift(2, 0, 3, 0, 1), -13);
        due("like sorts: none", x.shift(2, 0, 3, 0, 0), 0);
    }

    private static SixWalls counted(int sort) {
        SixWalls x = new SixWalls();
        x.row(0, sort, 10);
        x.row(1, sort, 6);
        for (int i = 0; i < 10; i++) x.put(0, i, sort == 4 ? i / 3 % 2 : i + 1);
        return x;
    }

    private static void shifted() {
        for (int sort = 0; sort < 5; sort++) {
            for (int i = -1; i <= 11; i++) {
                for (int n = -1; n <= 11; n++) {
                    shiftedInto(sort, i, 2, n);
                    shiftedInto(sort, 2, i, n);
                }
            }
            SixWalls x = counted(sort);
            due("all, to a shorter one", x.shift(0, 0, 1, 0, 7), -13);
            due("as much as it has room for", x.shift(0, 4, 1, 0, 6), 6);
            for (int i = 0; i < 6; i++) due("there", x.element(1, i), x.element(0, i + 4));
            due("its last one", x.shift(1, 5, 0, 9, 1), 1);
            due("none, behind both", x.shift(0, 10, 1, 6, 0), 0);
            due("none, farther behind", x.shift(0, 11, 1, 6, 0), -13);
            due("none, farther behind", x.shift(0, 10, 1, 7, 0), -13);
            due("none, ahead", x.shift(0, -1, 1, 0, 0), -13);
            int[][] beside = {{0, 0, -1}, {0, 0, MIN}, {MAX, 0, 1}, {0, MAX, 1}, {1, 1, MAX}, {MIN, 0, MAX}, {MAX, MAX, MAX}, {5, 5, MIN}};
            for (int[] one : beside) due("beside", x.shift(0, one[0], 1, one[1], one[2]), -13);
        }
    }

    private static void shiftedInto(int sort, int i, int j, int n) {
        SixWalls x = counted(sort);
        long[] then = new long[10];
        for (int p = 0; p < 10; p++) then[p] = x.element(0, p);
        boolean fits = i >= 0 && j >= 0 && n >= 0 && i + n <= 10 && j + n <= 10;
        if (fits) for (int p = 0; p < n; p++) then[j + p] = x.element(0, i + p);
        due(n + " from " + i + " to " + j, x.shift(0, i, 0, j, n), fits ? n : -13);
        for (int p = 0; p < 10; p++) due("then " + p, x.element(0, p), then[p]);
    }

    private static void taken() {
        bounds("taken(4, k)", 0, 7, BAD, (fresh, k) -> mixed().taken(4, k));
        SixWalls x = mixed();
        // of the CELL on 4: a QUEEN is MIDDLE, WARM and CELL, too
        int[] queen = {7, 7, -12, -12, 7, -12, -12, 7};
        for (int k = 0; k < 8; k++) due("a QUEEN for " + k, x.taken(4, k), queen[k]);
        x.keep(4, 5);
        int[] edge = {5, -12, 5, 5, -12, 5, -12, -12};
        for (int k = 0; k < 8; k++) due("an EDGE for " + k, x.taken(4, k), edge[k]);
        x.keep(4, 0);
        for (int k = 0; k < 8; k++) due("a CELL for " + k, x.taken(4, k), k == 0 ? 0 : -12);
        for (int k = 0; k < 8; k++) {
            due("nothing for " + k, x.taken(5, k), -11);
            due("a ROW for " + k, x.taken(0, k), -12);
            due("a ROW of none for " + k, x.taken(3, k), -12);
        }
        for (int s = 0; s < 6; s++) due("BAD is named first", x.taken(s, 8), BAD);
    }

    private static SixWalls burning(int... row) {
        SixWalls x = new SixWalls();
        x.row(0, 0, row.length);
        for (int i = 0; i < row.length; i++) x.put(0, i, row[i]);
        return x;
    }

    private static void burn(String call, SixWalls x, int house, int... fires) {
        for (int n = 0; n < fires.length; n++) due(call + ", FIRE of " + (house + n), x.of(house + n, 0), fires[n]);
    }

    private static void fires() {
        hn();
        SixWalls x = burning(1, 2, 3, 4);
        due("n of them", x.fires(0, 0, 2), 2);
        burn("n of them", x, 0, 1, 2, 0, 0);
        due("one", x.fires(0, 3, 501), 1);
        burn("one", x, 4, 0, 4, 0);
        due("it ends", x.fires(0, 2, 1016), 2);
        burn("it ends", x, 9, 0, 3, 4, 0);
        due("just as many as it has", x.fires(0, 0, 804), 4);
        due("one more than it has", x.fires(0, 0, 805), 4);
        due("at its end", x.fires(0, 4, 1), 0);
        due("behind its end", x.fires(0, 5, 1), 0);
        due("far behind", x.fires(0, MAX, 16), 0);
        due("ahead of it", x.fires(0, -1, 16), 0);
        due("far ahead", x.fires(0, MIN, 16), 0);
        due("behind HOUSE 15", x.fires(0, 0, 1404), 2);
        burn("behind HOUSE 15", x, 13, 0, 1, 2);
        due("HOUSE 15 alone", x.fires(0, 2, 1516), 1);
        burn("HOUSE 15 alone", x, 15, 3);
        SixWalls y = burning(9, 0, 10, 5, -1, 9);
        due("10 is not so", y.fires(0, 0, 306), 2);
        burn("10 is not so", y, 2, 0, 9, 0, 0, 0, 0, 0);
        due("-1 is not so", y.fires(0, 3, 306), 1);
        burn("-1 is not so", y, 3, 5, 0, 0);
        due("at once", y.fires(0, 2, 1001), 0);
        due("at once", y.fires(0, 4, 1001), 0);
        burn("at once", y, 10, 0);
        y.put(0, 4, 256 + 7);
        due("its lowest bits count", y.fires(0, 4, 1201), 1);
        burn("its lowest bits count", y, 12, 7);
        SixWalls all = burning(0, 1, 2, 3, 4, 5, 6, 7, 8, 9, 0, 1, 2, 3, 4, 5, 6, 7);
        due("all sixteen", all.fires(0, 1, 16), 16);
        burn("all sixteen", all, 0, 1, 2, 3, 4, 5, 6, 7, 8, 9, 0, 1, 2, 3, 4, 5, 6);
        due("no CHANGES", all.count(4), 0);
        due("none to undo", all.undo(), STATE);
        all.empty(3);
        due("where nobody lives, too", all.fires(0, 9, 301), 1);
        burn("where nobody lives, too", all, 3, 9);
        noRow();
    }

    private static void hn() {
        for (int hn = -300; hn < 1900; hn++) {
            boolean good = hn >= 0 && hn / 100 <= 15 && hn % 100 >= 1 && hn % 100 <= 16;
            due("hn " + hn, new SixWalls().fires(0, 0, hn), good ? 0 : BAD);
        }
        for (int hn : new int[] {MIN, MIN + 1, MAX, -101}) due("hn " + hn, new SixWalls().fires(0, 0, hn), BAD);
    }

    private static void noRow() {
        SixWalls gone = burning(7, 7, 7);
        gone.keep(0, -1);
        due("a row that was there is missing", gone.fires(0, 0, 3), 0);
        burn("a row that was there is missing", gone, 0, 0, 0, 0);
        gone.body(0);
        gone.row(0, 0, 3);
        gone.keep(0, 0);
        gone.keep(0, -1);
        due("a row that was there, then a cell", gone.fires(0, 0, 3), 0);
        SixWalls x = mixed();
        due("the row is missing", x.fires(5, 0, 16), 0);
        due("missing, ahead of it", x.fires(5, -1, 16), 0);
        for (int s = 1; s < 5; s++) {
            due("no ROW of bytes", x.fires(s, 0, 16), -12);
            due("ahead of it", x.fires(s, -1, 16), -12);
            due("BAD is named ahead of -12", x.fires(s, 0, 17), BAD);
            due("BAD is named ahead of -12", x.fires(s, 0, 1601), BAD);
        }
        x.row(1, 0, 0);
        due("a ROW of none", x.fires(1, 0, 16), 0);
        for (int sort = 1; sort < 5; sort++) {
            x.row(2, sort, 0);
            due("of none, of sort " + sort, x.fires(2, 0, 16), -12);
        }
        burn("as it was", x, 0, new int[16]);
    }

    private static void counts() {
        bounds("count", 0, 6, BAD, SixWalls::count);
        int[] first = {16, 0, 0, 0, 0, 0, 0};
        for (int what = 0; what < 7; what++) due("count " + what + " at first", new SixWalls().count(what), first[what]);
        SixWalls x = new SixWalls();
        for (int w = 0; w < 33; w++) {
            x.mend(w, 3, 1);
            due("DOORS", x.count(1), w + 1);
        }
        for (int h = 0; h < 16; h++) {
            x.empty(h);
            due("LIVED IN", x.count(0), 15 - h);
        }
    }
}
