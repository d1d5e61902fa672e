/** Sentence by sentence of the document's "Terms", part 1, houses and walls: ends, what is beside them, empty and full. */
public final class EdgesOfHouses extends Due {
    public static void main(String[] args) {
        sentence = "HOUSES 0 .. 15"; houses();
        sentence = "100 times the one and the other"; pairs();
        sentence = "odd rows lie half a house to the right"; neighbours();
        sentence = "WALLS 0 .. 32: each two neighbours"; walls();
        sentence = "A HOUSE with fewer than six neighbours is at the EDGE"; edge();
        sentence = "Of a HOUSE, of a WALL, COLD: bounds, and at first"; mended();
        end();
    }

    private static void houses() {
        for (int what = 0; what < 6; what++) {
            int asked = what;
            bounds("of(h, " + what + ")", 0, 15, VOID, (x, h) -> x.of(h, asked));
        }
        bounds("mend(h, 0, 1)", 0, 15, BAD, (x, h) -> x.mend(h, 0, 1));
        bounds("mend(h, 1, 1)", 0, 15, BAD, (x, h) -> x.mend(h, 1, 1));
        bounds("warmth(h, 0), the sum too", -1, 15, BAD, (x, h) -> x.warmth(h, 0));
        bounds("leastFire(h, 0)", 0, 15, BAD, (x, h) -> x.leastFire(h, 0));
        bounds("empty(h)", 0, 15, BAD, SixWalls::empty);
        bounds("takes(h, 0)", 0, 15, BAD, (x, h) -> x.takes(h, 0));
        bounds("takes(h, 1)", 0, 15, BAD, (x, h) -> x.takes(h, 1));
        bounds("takes(0, what)", 0, 1, BAD, (x, n) -> x.takes(0, n));
        bounds("where(k)", 0, 30, BAD, SixWalls::where);
    }

    private static void pairs() {
        for (int ab = -300; ab < 2000; ab++) {
            boolean both = ab >= 0 && ab / 100 <= 15 && ab % 100 <= 15;
            boolean same = ab / 100 == ab % 100;
            SixWalls x = new SixWalls();
            due("wall(" + ab + ") is BAD", x.wall(ab) == BAD ? 1 : 0, both && !same ? 0 : 1);
            due("way(" + ab + ")", x.way(ab), !both ? BAD : same ? 0 : NOT);
            due("heard(" + ab + ", 0)", x.heard(ab, 0), both ? 0 : BAD);
        }
        for (int ab : new int[] {MIN, MIN + 1, MAX, MAX - 1, -100, 10000, 150015}) {
            due("wall(" + ab + ")", new SixWalls().wall(ab), BAD);
            due("way(" + ab + ")", new SixWalls().way(ab), BAD);
            due("heard(" + ab + ", 0)", new SixWalls().heard(ab, 0), BAD);
        }
    }

    /** As the document says it, by rows and columns. */
    private static boolean said(int h, int g) {
        int r = h / 4;
        int c = h % 4;
        int s = g / 4;
        int e = g % 4;
        if (s == r) return e == c - 1 || e == c + 1;
        if (s != r - 1 && s != r + 1) return false;
        return e == c || e == (r % 2 == 0 ? c - 1 : c + 1);
    }

    private static void neighbours() {
        SixWalls x = new SixWalls();
        for (int h = 0; h < 16; h++) {
            int many = 0;
            for (int g = 0; g < 16; g++) {
                if (g == h) continue;
                if (said(h, g)) many++;
                due("neighbours " + h + ", " + g, x.wall(100 * h + g) == NOT ? 0 : 1, said(h, g) ? 1 : 0);
            }
            due("how many of " + h, x.of(h, 4), many);
        }
        int[][] none = {{3, 4}, {7, 8}, {0, 5}, {4, 12}, {3, 0}, {15, 0}, {8, 13}, {7, 2}, {11, 6 - 4}};
        for (int[] n : none) due("a row's end, or one too far", x.wall(100 * n[0] + n[1]), NOT);
    }

    private static void walls() {
        SixWalls x = new SixWalls();
        int n = 0;
        for (int a = 0; a < 16; a++) {
            for (int b = a + 1; b < 16; b++) {
                if (!said(a, b)) continue;
                due("wall", x.wall(100 * a + b), n);
                due("from the other side", x.wall(100 * b + a), n);
                due("its houses", x.of(n, 13), 100 * a + b);
                n++;
            }
        }
        due("how many", n, 33);
        for (int what = 10; what < 16; what++) {
            int asked = what;
            bounds("of(w, " + what + ")", 0, 32, VOID, (y, w) -> y.of(w, asked));
        }
        for (int what = 2; what < 5; what++) {
            int told = what;
            bounds("mend(w, " + what + ", 1)", 0, 32, BAD, (y, w) -> y.mend(w, told, 1));
        }
        bounds("gave(w, 0)", 0, 32, VOID, (y, w) -> y.gave(w, 0));
        bounds("led(w)", 0, 32, VOID, SixWalls::led);
        bounds("rounds(w), all too", -1, 32, BAD, SixWalls::rounds);
        bounds("paint(w)", 0, 32, BAD, SixWalls::paint);
        int[] whats = {-1, 6, 7, 9, 16, 19, 22, MIN, MAX};
        for (int what : whats) due("of(0, " + what + ")", x.of(0, what), VOID);
        for (int what = 20; what < 22; what++) {
            int asked = what;
            bounds("of(number 0, " + what + ")", 0, 0, VOID, (y, w) -> y.of(w, asked));
        }
    }

    private static void edge() {
        for (int h = 0; h < 16; h++) {
            SixWalls x = new SixWalls();
            for (int g = 0; g < 16; g++) if (g != h) x.empty(g);
            boolean inner = h == 5 || h == 6 || h == 9 || h == 10;
            due("SHUT IN, in " + h, x.doors(0), inner ? 1 : 0);
            due("neighbours of " + h, x.of(h, 4) == 6 ? 1 : 0, inner ? 1 : 0);
        }
    }

    private static void mended() {
        int[] least = {0, 0, 0, 0, 0, 0, 6};
        int[] most = {9, 9, 9, 1, 5, 9, 54};
        int[] first = {0, 4, 3, 0, 0, 2, 30};
        int[] asked = {0, 1, 10, 11, 12, 20, 21};
        int[] numbers = {16, 16, 33, 33, 33, 1, 1};
        for (int what = 0; what < 7; what++) {
            int told = what;
            bounds("mend(0, " + what + ", v)", least[what], most[what], BAD, (x, v) -> x.mend(0, told, v));
            bounds("mend(n, " + what + ", v)", 0, numbers[what] - 1, BAD, (x, n) -> x.mend(n, told, most[told]));
            SixWalls x = new SixWalls();
            for (int n = 0; n < numbers[what]; n++) {
                due("of " + n + " at first", x.of(n, asked[what]), first[what]);
                due("mend " + n, x.mend(n, what, most[what]), first[what]);
                due("of " + n + " then", x.of(n, asked[what]), most[what]);
                due("mend " + n + " again", x.mend(n, what, least[what]), most[what]);
                due("of " + n + " at last", x.of(n, asked[what]), least[what]);
            }
        }
        bounds("mend(0, what, 6)", 0, 6, BAD, (x, what) -> x.mend(0, what, what == 3 || what == 4 ? 1 : 6));
        SixWalls x = new SixWalls();
        for (int h = 0; h < 16; h++) {
            due("WARMTH of " + h, x.of(h, 2), 20);
            due("LIVED IN of " + h, x.of(h, 3), 1);
        }
    }
}
