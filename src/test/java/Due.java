/** What the tests sentence by sentence have in common: answers that are due, bounds, and combs to begin with. */
abstract class Due {
    static final int VOID = SixWalls.VOID, BAD = SixWalls.BAD, NOT = SixWalls.NOT, FULL = SixWalls.FULL, STATE = SixWalls.STATE;
    static final int MIN = Integer.MIN_VALUE, MAX = Integer.MAX_VALUE;
    /** What the document says of what is looked at now. */
    static String sentence = "";
    private static int looked = 0;
    private static int wrong = 0;

    interface Call {
        long on(SixWalls x, int n);
    }

    static void due(String call, long got, long want) {
        looked++;
        if (got == want) return;
        wrong++;
        System.out.println("\"" + sentence + "\": " + call + " answered " + got + ", due is " + want);
    }

    static void end() {
        System.out.println(wrong == 0 ? looked + " answers are as due" : wrong + " answers are not as due");
        if (wrong != 0) System.exit(1);
    }

    /** Both ends are allowed, and nothing beside them. */
    static void bounds(String call, int least, int most, long refused, Call of) {
        for (int n : new int[] {least, most}) {
            due(call + " with " + n + " is refused", of.on(new SixWalls(), n) == refused ? 1 : 0, 0);
        }
        for (int n : new int[] {least - 1, most + 1, most + 100, MIN, MIN + 1, MAX - 1, MAX}) {
            due(call + " with " + n, of.on(new SixWalls(), n), refused);
        }
    }

    static int tell(SixWalls x, String law) {
        for (int i = 0; i < law.length(); i++) x.feed(law.charAt(i));
        return x.law();
    }

    /** No heat goes through walls, and there is no cold: each house warms by its own fire. */
    static SixWalls apart() {
        SixWalls x = new SixWalls();
        due("the law 0", tell(x, "0"), 1);
        x.mend(0, 5, 0);
        return x;
    }

    /** A house is warmed by so much, by its own fire; it has none then. */
    static void heat(SixWalls x, int house, int more) {
        x.mend(house, 0, 9);
        if (more >= 9) x.days(more / 9);
        x.mend(house, 0, more % 9);
        if (more % 9 > 0) x.days(1);
        x.mend(house, 0, 0);
    }

    /** House 5 is so much warmer than all others, with no heat going until the law changes. */
    static SixWalls warmer(int d) {
        SixWalls x = apart();
        heat(x, 5, d);
        due("made warmer", x.of(5, 2), 20 + d);
        return x;
    }
}
