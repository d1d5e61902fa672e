/** Sentence by sentence of the document's "Terms", part 3, doors, noises, colours: ends, what is beside them, empty and full. */
public final class EdgesOfDoors extends Due {
    public static void main(String[] args) {
        sentence = "a WAY by DOORS: how many at least (0 itself); NOT"; ways();
        sentence = "SHUT IN"; shutIn();
        sentence = "OPENED"; opened();
        sentence = "FRIENDS"; friends();
        sentence = "a loudness (0 .. 99); HEARD by the loudest way (0 at least)"; heard();
        sentence = "WHOSE (above 0; itself may be told or not)"; whose();
        sentence = "CLASH"; clash();
        sentence = "PAINT (of like ones the least)"; paint();
        sentence = "CALMED: each painted so once, in thought"; calmed();
        sentence = "POTS"; pots();
        end();
    }

    private static final int[] SNAKE = {0, 1, 2, 3, 7, 6, 5, 4, 8, 9, 10, 11, 15, 14, 13, 12};

    private static void ways() {
        SixWalls x = new SixWalls();
        for (int h = 0; h < 16; h++) due("itself", x.way(101 * h), 0);
        for (int h = 1; h < 16; h++) due("no DOOR at all", x.way(h), NOT);
        for (int n = 0; n < 15; n++) {
            due("one DOOR more", x.mend(x.wall(100 * SNAKE[n] + SNAKE[n + 1]), 3, 1), 0);
            due("as far as " + SNAKE[n + 1], x.way(SNAKE[n + 1]), n + 1);
            if (n < 14) due("and no farther", x.way(SNAKE[n + 2]), NOT);
        }
        due("the longest one", x.way(12), 15);
        due("back", x.way(1200), 15);
        x.mend(x.wall(607), 3, 0);
        due("cut in its middle", x.way(12), NOT);
        x.mend(x.wall(206), 3, 1);
        due("a shorter one", x.way(12), 13);
        for (int h = 0; h < 16; h++) x.empty(h);
        due("by houses where nobody lives", x.way(12), 13);
        SixWalls y = new SixWalls();
        for (int ab : new int[] {1, 4, 105, 405}) y.mend(y.wall(ab), 3, 1);
        due("two ways, as short as each other", y.way(5), 2);
        due("and back", y.way(500), 2);
        for (int w = 0; w < 33; w++) {
            SixWalls z = new SixWalls();
            z.mend(w, 3, 1);
            int ab = z.of(w, 13);
            due("by the DOOR of " + w, z.way(ab), 1);
            due("by it, back", z.way(ab % 100 * 100 + ab / 100), 1);
        }
    }

    private static void shutIn() {
        bounds("doors", 0, 1, BAD, SixWalls::doors);
        SixWalls x = new SixWalls();
        due("the four in the middle", x.doors(0), 4);
        int[][] ring = {{5, 6}, {9, 10}, {5, 9}, {6, 10}};
        for (int[] one : ring) x.mend(x.wall(100 * one[0] + one[1]), 3, 1);
        due("doors between them alone", x.doors(0), 4);
        x.mend(x.wall(1011), 3, 1);
        due("all by one of them", x.doors(0), 0);
        x.mend(x.wall(1011), 3, 0);
        for (int h : new int[] {5, 6, 9}) x.empty(h);
        due("who lives there", x.doors(0), 1);
        x.empty(10);
        due("nobody", x.doors(0), 0);
        for (int w = 0; w < 33; w++) oneDoor(w);
    }

    /** One DOOR alone lets one of the middle out if its other HOUSE is at the EDGE, whichever of them is the lesser. */
    private static void oneDoor(int wall) {
        SixWalls x = new SixWalls();
        x.mend(wall, 3, 1);
        boolean lowIn = x.of(x.of(wall, 13) / 100, 4) == 6;
        boolean highIn = x.of(x.of(wall, 13) % 100, 4) == 6;
        due("SHUT IN with the DOOR of " + wall, x.doors(0), lowIn == highIn ? 4 : 3);
        due("OPENED with the DOOR of " + wall, x.opened(0), lowIn || highIn ? 3 : 4);
        long which = x.opened(1);
        for (int w = 0; w < 33; w++) if ((which >> w & 1) == 1) due("shut till then", x.mend(w, 3, 1), 0);
        due("all OUT by those of OPENED", x.doors(0), 0);
    }

    private static void opened() {
        bounds("opened", 0, 1, Long.MIN_VALUE, SixWalls::opened);
        SixWalls x = new SixWalls();
        due("four", x.opened(0), 4);
        due("the least ones", x.opened(1), 1L << 4 | 1L << 7 | 1L << 12 | 1L << 15);
        x.mend(15, 3, 1);
        due("5 and 10 are one: three", x.opened(0), 3);
        due("which", x.opened(1), 1L << 4 | 1L << 7 | 1L << 12);
        x.mend(13, 3, 1);
        x.mend(14, 3, 1);
        due("all are one: one", x.opened(0), 1);
        due("the least of all their walls to the EDGE", x.opened(1), 1L << 4);
        x.empty(5);
        due("by way of an empty one", x.opened(1), 1L << 4);
        for (int h : new int[] {6, 9}) x.empty(h);
        due("as long as one lives there", x.opened(0), 1);
        x.empty(10);
        due("nobody: none", x.opened(0), 0);
        due("nobody: no bits", x.opened(1), 0);
        SixWalls alone = new SixWalls();
        for (int h = 0; h < 16; h++) if (alone.of(h, 4) < 6) alone.empty(h);
        due("nobody at the EDGE", alone.opened(0), 4);
        due("nobody at the EDGE: the same ones", alone.opened(1), 1L << 4 | 1L << 7 | 1L << 12 | 1L << 15);
        SixWalls y = new SixWalls();
        for (int h : new int[] {5, 6, 9}) y.empty(h);
        // 10 by 5, where nobody lives, would be the least number, but two doors
        due("10 alone", y.opened(0), 1);
        due("its own wall to the EDGE", y.opened(1), 1L << 25);
        y.mend(4, 3, 1);
        due("5 is OUT: the wall of 5 and 10 is less", y.opened(1), 1L << 15);
        y.mend(15, 3, 1);
        due("10 is OUT", y.opened(1), 0);
    }

    private static void friends() {
        SixWalls x = new SixWalls();
        due("none", x.doors(1), 0);
        for (int w = 0; w < 33; w++) {
            x.mend(w, 3, 1);
            due("one more", x.doors(1), w + 1);
        }
        x.empty(5);
        due("not with an empty one", x.doors(1), 27);
        for (int h = 0; h < 16; h++) x.empty(h);
        due("nobody", x.doors(1), 0);
        due("the DOORS stay", x.count(1), 33);
    }

    private static void heard() {
        SixWalls near = new SixWalls();
        for (int w = 0; w < 33; w++) {
            int ab = near.of(w, 13);
            due("through " + w, near.heard(ab, 50), 41);
            due("through " + w + ", back", near.heard(ab % 100 * 100 + ab / 100, 50), 41);
        }
        near.mend(0, 2, 0);
        near.mend(32, 2, 0);
        for (int a = 0; a < 16; a++) {
            for (int b = 0; b < a; b++) due("back from " + b, near.heard(100 * a + b, 99), near.heard(100 * b + a, 99));
        }
        bounds("heard(1, loud)", 0, 99, BAD, (x, loud) -> x.heard(1, loud));
        bounds("heard(0, loud)", 0, 99, BAD, (x, loud) -> x.heard(0, loud));
        SixWalls x = new SixWalls();
        for (int loud = 0; loud < 100; loud++) {
            due("itself", x.heard(505, loud), loud);
            due("by THICK 3", x.heard(506, loud), Math.max(0, loud - 9));
        }
        for (int w = 0; w < 33; w++) x.mend(w, 2, 9);
        due("by THICK 9", x.heard(506, 99), 78);
        due("just not", x.heard(506, 21), 0);
        due("just so", x.heard(506, 22), 1);
        x.mend(13, 3, 1);
        due("by a DOOR, whatever THICK", x.heard(506, 4), 1);
        due("3 are too few", x.heard(506, 3), 0);
        x.mend(13, 3, 0);
        x.mend(13, 2, 0);
        due("by THICK 0", x.heard(506, 4), 1);
        // 1 to 2 by 5: two doors are less than one wall
        x.mend(4, 3, 1);
        x.mend(6, 3, 1);
        due("the loudest way, not the shortest", x.heard(102, 99), 93);
        SixWalls y = new SixWalls();
        for (int w = 0; w < 33; w++) y.mend(w, 2, 9);
        for (int n = 0; n < 15; n++) y.mend(y.wall(100 * SNAKE[n] + SNAKE[n + 1]), 3, 1);
        // 1 to 9 by the snake: 8 doors; straight: 42 by two walls
        due("a long way by doors", y.heard(109, 99), 99 - 24);
        due("the longest that pays", y.heard(309, 99), 99 - 18);
        due("farther than walls", y.heard(12, 99), 99 - Math.min(45, 3 * 21));
    }

    private static void whose() {
        bounds("whose(loud, 0)", 0, 99, BAD, (x, loud) -> x.whose(loud, 0));
        bounds("whose(0, told)", 0, 65535, BAD, (x, told) -> x.whose(0, told));
        SixWalls x = new SixWalls();
        due("0 is heard nowhere, not even itself", x.whose(0, 0), 65535);
        for (int h = 0; h < 16; h++) due("itself told", x.whose(9, 1 << h), 1 << h);
        due("9 just not next door", x.whose(9, 0), 65535);
        due("10 just so", x.whose(10, 0), 0);
        due("all hear all", x.whose(99, 65535), 65535);
        for (int h = 0; h < 16; h++) due("all but itself", x.whose(99, 65535 & ~(1 << h)), 1 << h);
        due("all but two", x.whose(99, 65532), 0);
        int all = 0;
        for (int g : new int[] {1, 2, 4, 6, 9, 10}) all |= 1 << g;
        due("all of 5's neighbours", x.whose(10, all), 1 << 5);
        due("itself told too", x.whose(10, all | 1 << 5), 1 << 5);
        due("one lacks", x.whose(10, all & ~2), 0);
        due("one is too many", x.whose(10, all | 1), 0);
        x.empty(5);
        due("nobody lives there", x.whose(10, all), 0);
        for (int h = 0; h < 16; h++) x.empty(h);
        due("nobody at all", x.whose(0, 0), 0);
    }

    /** Each of the three ways that walls run has two colours by turns: no house has two alike. */
    private static SixWalls calm() {
        SixWalls x = new SixWalls();
        for (int w = 0; w < 33; w++) {
            int a = x.of(w, 13) / 100;
            int b = x.of(w, 13) % 100;
            int r = a / 4;
            boolean level = b / 4 == r;
            boolean right = b % 4 == a % 4 + (r % 2 == 0 ? 0 : 1);
            x.mend(w, 4, level ? a % 2 : right ? 2 + r % 2 : 4 + r % 2);
        }
        return x;
    }

    private static void clash() {
        bounds("colours", 0, 2, BAD, SixWalls::colours);
        SixWalls x = calm();
        due("none", x.colours(0), 0);
        // wall 0 was 0: 1, 2, 4, 5 of house 1 have 1, 4 and others
        x.mend(13, 4, 2);
        due("5's and 6's walls of colour 2", x.colours(0), 2);
        SixWalls y = new SixWalls();
        int all = 0;
        for (int h = 0; h < 16; h++) all += y.of(h, 4) * (y.of(h, 4) - 1) / 2;
        due("all alike", y.colours(0), all);
        for (int w = 0; w < 33; w++) y.mend(w, 4, 5);
        due("all alike by another colour", y.colours(0), all);
        for (int h = 0; h < 16; h++) y.empty(h);
        due("where nobody lives, too", y.colours(0), all);
    }

    private static void paint() {
        SixWalls x = new SixWalls();
        for (int w = 0; w < 33; w++) due("all 0: the least other one", x.paint(w), 1);
        for (int w = 0; w < 33; w++) x.mend(w, 4, 5);
        for (int w = 0; w < 33; w++) due("all 5: the least", x.paint(w), 0);
        // wall 32, of 14 and 15, with 27, 28, 29, 31 beside it
        int[] beside = {0, 0, 0, 0};
        for (int w : new int[] {27, 28, 29, 31}) x.mend(w, 4, beside[0]++);
        due("the greatest that is free, of like ones the least", x.paint(32), 4);
        x.mend(27, 4, 4);
        due("0 is free again", x.paint(32), 0);
        x.mend(32, 4, 5);
        due("whatever it has", x.paint(32), 0);
        // wall 13, of 5 and 6: ten others; each colour twice but for 5, which none has
        int[] ten = {4, 6, 10, 14, 15, 7, 8, 16, 17, 18};
        SixWalls y = new SixWalls();
        for (int n = 0; n < 10; n++) y.mend(ten[n], 4, n % 5);
        due("the last colour", y.paint(13), 5);
        y.mend(18, 4, 5);
        due("4 and 5 once: the least of them", y.paint(13), 4);
        due("in thought", y.of(13, 12), 0);
    }

    private static void calmed() {
        due("from none", calm().colours(1), 0);
        SixWalls x = new SixWalls();
        due("from all alike", x.colours(1), 4);
        due("in thought", x.colours(0), 118);
        // one by one by hand: what each sees of those ahead of it, painted, and of those behind it, as they are
        SixWalls y = new SixWalls();
        for (int w = 0; w < 33; w++) y.mend(w, 4, x.paint(w) * 0 + w * 7 % 6);
        int then = y.colours(1);
        for (int w = 0; w < 33; w++) y.mend(w, 4, y.paint(w));
        due("as by hand", y.colours(0), then);
        for (int drawn = 1; drawn < 60; drawn++) {
            SixWalls z = new SixWalls();
            int v = drawn;
            for (int w = 0; w < 33; w++) {
                v = v * 1103515245 + 12345;
                z.mend(w, 4, (v >>> 16) % (2 + drawn % 5));
            }
            int calm = z.colours(1);
            for (int w = 0; w < 33; w++) z.mend(w, 4, z.paint(w));
            due("as by hand, drawn " + drawn, z.colours(0), calm);
        }
    }

    private static void pots() {
        SixWalls x = new SixWalls();
        due("one", x.colours(2), 1);
        for (int c = 1; c < 6; c++) {
            x.mend(10 + c, 4, c);
            due("one more", x.colours(2), c + 1);
        }
        for (int w = 0; w < 33; w++) x.mend(w, 4, 5);
        due("one again", x.colours(2), 1);
        for (int w = 0; w < 33; w++) {
            x.mend(w, 4, w % 5);
            due("one WALL alone of its COLOUR", x.colours(2), 2);
            x.mend(w, 4, 5);
        }
    }
}
