/** A comb of six sided houses, each wall two families': heat, doors, noises, colours, years, and a host's shelves. */
public final class SixWalls {
    public static final int BAD = -1, NOT = -2, FULL = -3, STATE = -5, VOID = -2000000000;

    private static final int HOUSES = 16, WALLS = 33, SIDES = 6;
    private static final int MOST_WARM = 99, MOST_FIRE = 9, MOST_DAYS = 30, STILL_DAYS = 60, MOST_YEARS = 20;
    private static final int NOTHING_THERE = -11, OTHER_KIND = -12, NO_PLACE = -13, SIZE_BELOW = -14;

    private final Comb comb = new Comb();
    private final LawText text = new LawText();
    private final Winter winter = new Winter(comb, text);
    private final Masonry masonry = new Masonry(comb);
    private final Ways ways = new Ways(comb);
    private final Families families = new Families(comb);
    private final History history = new History(comb);
    private final Cells cells = new Cells();
    private final Shelves shelves = new Shelves();

    public SixWalls() {
    }

    private static boolean within(int v, int least, int most) {
        return v >= least && v <= most;
    }

    private static boolean isHouse(int number) {
        return within(number, 0, HOUSES - 1);
    }

    private static boolean isWall(int number) {
        return within(number, 0, WALLS - 1);
    }

    private static boolean isThought(int k) {
        return within(k, 0, MOST_DAYS);
    }

    private static boolean isPair(int ab) {
        return ab >= 0 && isHouse(ab / 100) && isHouse(ab % 100);
    }

    private static int sum(int[] numbers) {
        int all = 0;
        for (int v : numbers) all += v;
        return all;
    }

    // ---- houses, walls

    public int wall(int ab) {
        if (!isPair(ab) || ab / 100 == ab % 100) return BAD;
        int found = comb.wallBetween(ab / 100, ab % 100);
        return found < 0 ? NOT : found;
    }

    public int mend(int number, int what, int v) {
        if (!comb.fits(number, what, v)) return BAD;
        int was = comb.told(number, what);
        if (was != v) {
            comb.tell(number, what, v);
            history.record(number, what, was, v);
        }
        return was;
    }

    public int of(int number, int what) {
        if (within(what, 0, 5)) return isHouse(number) ? ofHouse(number, what) : VOID;
        if (within(what, 10, 15)) return isWall(number) ? ofWall(number, what) : VOID;
        if (number != 0) return VOID;
        if (what == 20) return comb.frost;
        return what == 21 ? comb.bear : VOID;
    }

    private int ofHouse(int house, int what) {
        switch (what) {
            case 0: return comb.fire[house];
            case 1: return comb.want[house];
            case 2: return comb.warm[house];
            case 3: return comb.lived[house];
            case 4: return comb.sides[house];
            default: return comb.load(house, comb.thick);
        }
    }

    private int ofWall(int wall, int what) {
        switch (what) {
            case 10: return comb.thick[wall];
            case 11: return comb.door[wall];
            case 12: return comb.colour[wall];
            case 13: return 100 * comb.low[wall] + comb.high[wall];
            case 14: return masonry.agreed(wall, comb.thick[wall]);
            default: return winter.flow(wall, comb.warm);
        }
    }

    public int fires(int shelf, int i, int hn) {
        if (!shelves.isShelf(shelf) || hn < 0 || !isHouse(hn / 100) || !within(hn % 100, 1, HOUSES)) return BAD;
        if (!shelves.mayBeBytes(shelf)) return OTHER_KIND;
        int house = hn / 100;
        int most = Math.min(hn % 100, HOUSES - house);
        int came = 0;
        for (int k = 0; k < most; k++) {
            if (!shelves.hasPlace(shelf, i + k)) break;
            long v = shelves.at(shelf, i + k);
            if (v < 0 || v > MOST_FIRE) break;
            comb.fire[house + k] = (int) v;
            came++;
        }
        return came;
    }

    public int feed(int letter) {
        if (!within(letter, 0, 255)) return BAD;
        return text.take(letter) ? text.fed() : FULL;
    }

    public int law() {
        int fault = text.read();
        return fault < 0 ? 1 : -100 - fault;
    }

    // ---- winters

    public int warmth(int house, int k) {
        if (house != -1 && !isHouse(house) || !isThought(k)) return BAD;
        winter.think(k);
        return house < 0 ? sum(winter.thought) : winter.thought[house];
    }

    public int cold(int below, int k) {
        if (!within(below, 0, MOST_WARM) || !isThought(k)) return BAD;
        winter.think(k);
        int many = 0;
        for (int h = 0; h < HOUSES; h++) {
            if (comb.lived[h] == 1 && winter.thought[h] < below) many++;
        }
        return many;
    }

    public int still() {
        return winter.daysTillStill();
    }

    public int gave(int wall, int k) {
        if (!isWall(wall) || !isThought(k)) return VOID;
        return winter.goneThrough(wall, k);
    }

    public int leastFire(int house, int wk) {
        if (!isHouse(house) || wk < 0 || wk / 100 > MOST_WARM || !isThought(wk % 100)) return BAD;
        return winter.fireFor(house, wk / 100, wk % 100);
    }

    public int days(int k) {
        if (!within(k, 1, MOST_DAYS)) return BAD;
        winter.live(k);
        return sum(comb.warm);
    }

    public int led(int wall) {
        if (!isWall(wall)) return VOID;
        return winter.passed == 0 ? STATE : winter.latest[wall];
    }

    public int rounds(int wall) {
        if (wall != -1 && !isWall(wall)) return BAD;
        int many = masonry.settle();
        return wall < 0 ? many : masonry.thickThen(wall);
    }

    // ---- doors, noises, colours

    public int way(int ab) {
        return isPair(ab) ? ways.steps(ab / 100, ab % 100) : BAD;
    }

    public int doors(int what) {
        if (what == 0) return ways.shutIn();
        return what == 1 ? ways.friends() : BAD;
    }

    public long opened(int what) {
        if (!within(what, 0, 1)) return Long.MIN_VALUE;
        long which = ways.fewestMore();
        return what == 0 ? Long.bitCount(which) : which;
    }

    public int heard(int ab, int loud) {
        if (!isPair(ab) || !within(loud, 0, 99)) return BAD;
        return ways.loudness(ab / 100, ab % 100, loud);
    }

    public int whose(int loud, int told) {
        if (!within(loud, 0, 99) || !within(told, 0, 65535)) return BAD;
        return ways.sources(loud, told);
    }

    public int colours(int what) {
        switch (what) {
            case 0: return masonry.clashes();
            case 1: return masonry.calmed();
            case 2: return masonry.pots();
            default: return BAD;
        }
    }

    public int paint(int wall) {
        return isWall(wall) ? masonry.calmest(wall, comb.colour) : BAD;
    }

    // ---- empty houses, years

    public int empty(int house) {
        if (!isHouse(house)) return BAD;
        if (comb.lived[house] == 0) return STATE;
        comb.lived[house] = 0;
        comb.fire[house] = 0;
        return sum(comb.lived);
    }

    public int takes(int house, int what) {
        if (!isHouse(house) || !within(what, 0, 1)) return BAD;
        if (comb.lived[house] == 1) return STATE;
        int who = families.taker(house);
        if (who < 0) return NOT;
        if (what == 1) families.takeIn(house, who);
        return who;
    }

    public int where(int k) {
        if (!isThought(k)) return BAD;
        winter.think(k);
        int best = NOT;
        for (int h = 0; h < HOUSES; h++) {
            if (comb.lived[h] == 0 && (best < 0 || winter.thought[h] > winter.thought[best])) best = h;
        }
        return best;
    }

    public int years(int seed, int n) {
        if (!within(n, 1, MOST_YEARS)) return BAD;
        families.grow(seed, n);
        return sum(comb.lived);
    }

    public int image() {
        families.keepImage();
        return sum(comb.warm);
    }

    public int back() {
        return families.layBack() ? sum(comb.warm) : STATE;
    }

    public int undo() {
        return history.takeBack();
    }

    public int redo() {
        return history.doAgain();
    }

    // ---- acts, shelves

    public int body(int kind) {
        if (!cells.isKind(kind)) return BAD;
        return cells.add(kind);
    }

    public int act(int body, int act, int x) {
        return cells.run(body, act, x);
    }

    public int trace(int i) {
        return cells.ranAt(i);
    }

    public int keep(int shelf, int body) {
        if (!shelves.isShelf(shelf) || body != -1 && !cells.isBody(body)) return BAD;
        shelves.hold(shelf, body);
        return 1;
    }

    public int row(int shelf, int sort, int n) {
        if (!shelves.isShelf(shelf) || !shelves.isSort(sort) || n > Shelves.LONGEST) return BAD;
        if (n < 0) return SIZE_BELOW;
        shelves.lay(shelf, sort, n);
        return 1;
    }

    public int put(int shelf, int i, long v) {
        int refused = shelves.refusal(shelf, i);
        if (refused != 0) return refused;
        shelves.set(shelf, i, v);
        return 1;
    }

    public long element(int shelf, int i) {
        return shelves.refusal(shelf, i) != 0 ? Long.MIN_VALUE : shelves.at(shelf, i);
    }

    public int shift(int shelf, int i, int other, int j, int n) {
        int refused = shelves.refusalOfTwo(shelf, other);
        if (refused != 0) return refused;
        if (!shelves.hasStretch(shelf, i, n) || !shelves.hasStretch(other, j, n)) return NO_PLACE;
        shelves.move(shelf, i, other, j, n);
        return n;
    }

    public int taken(int shelf, int k) {
        if (!shelves.isShelf(shelf) || !cells.isKind(k)) return BAD;
        if (shelves.isBare(shelf)) return NOTHING_THERE;
        int body = shelves.cellOn(shelf);
        return cells.isUnder(body, k) ? cells.kindOf(body) : OTHER_KIND;
    }

    public int count(int what) {
        switch (what) {
            case 0: return sum(comb.lived);
            case 1: return sum(comb.door);
            case 2: return winter.passed;
            case 3: return text.fed();
            case 4: return history.undoable();
            case 5: return cells.many();
            case 6: return cells.ran();
            default: return BAD;
        }
    }

    /** Which houses share which wall, and all that is told of both. */
    private static final class Comb {
        final int[] low = new int[WALLS];
        final int[] high = new int[WALLS];
        final int[] sides = new int[HOUSES];
        final int[] wallAt = new int[HOUSES * SIDES];
        final int[] nextAt = new int[HOUSES * SIDES];
        final int[] lived = new int[HOUSES];
        final int[] fire = new int[HOUSES];
        final int[] warm = new int[HOUSES];
        final int[] want = new int[HOUSES];
        final int[] thick = new int[WALLS];
        final int[] door = new int[WALLS];
        final int[] colour = new int[WALLS];
        int frost = 2;
        int bear = 30;

        Comb() {
            for (int h = 0; h < HOUSES; h++) {
                lived[h] = 1;
                warm[h] = 20;
                want[h] = 4;
            }
            for (int w = 0; w < WALLS; w++) thick[w] = 3;
            layWalls();
        }

        private void layWalls() {
            int w = 0;
            for (int a = 0; a < HOUSES; a++) {
                for (int b = a + 1; b < HOUSES; b++) {
                    if (w >= WALLS || !beside(a, b)) continue;
                    low[w] = a;
                    high[w] = b;
                    w++;
                }
            }
            // one by one in their order, so that each house has its walls and its neighbours by numbers
            for (int v = 0; v < WALLS; v++) {
                addSide(low[v], v, high[v]);
                addSide(high[v], v, low[v]);
            }
        }

        private void addSide(int house, int wall, int next) {
            if (sides[house] >= SIDES) return;
            int place = house * SIDES + sides[house];
            wallAt[place] = wall;
            nextAt[place] = next;
            sides[house]++;
        }

        private static boolean beside(int a, int b) {
            int row = a / 4;
            int column = a % 4;
            int otherColumn = b % 4;
            if (row == b / 4) return Math.abs(column - otherColumn) == 1;
            if (Math.abs(row - b / 4) != 1) return false;
            return otherColumn == column || otherColumn == (row % 2 == 0 ? column - 1 : column + 1);
        }

        int wallBetween(int a, int b) {
            for (int s = 0; s < sides[a]; s++) {
                if (nextAt[a * SIDES + s] == b) return wallAt[a * SIDES + s];
            }
            return -1;
        }

        boolean atEdge(int house) {
            return sides[house] < SIDES;
        }

        int load(int house, int[] thickness) {
            int all = 0;
            for (int s = 0; s < sides[house]; s++) all += thickness[wallAt[house * SIDES + s]];
            return all;
        }

        boolean fits(int number, int what, int v) {
            switch (what) {
                case 0: return isHouse(number) && within(v, 0, MOST_FIRE);
                case 1: return isHouse(number) && within(v, 0, 9);
                case 2: return isWall(number) && within(v, 0, 9);
                case 3: return isWall(number) && within(v, 0, 1);
                case 4: return isWall(number) && within(v, 0, Masonry.COLOURS - 1);
                case 5: return number == 0 && within(v, 0, 9);
                case 6: return number == 0 && within(v, 6, 54);
                default: return false;
            }
        }

        /** Of numbers that fits() has seen. */
        int told(int number, int what) {
            switch (what) {
                case 0: return fire[number];
                case 1: return want[number];
                case 2: return thick[number];
                case 3: return door[number];
                case 4: return colour[number];
                case 5: return frost;
                default: return bear;
            }
        }

        /** With numbers that fits() has seen. */
        void tell(int number, int what, int v) {
            switch (what) {
                case 0: fire[number] = v; break;
                case 1: want[number] = v; break;
                case 2: thick[number] = v; break;
                case 3: door[number] = v; break;
                case 4: colour[number] = v; break;
                case 5: frost = v; break;
                default: bear = v; break;
            }
        }
    }

    /** The tape, and the law that was read from it: signs in the order in which they are worked out. */
    private static final class LawText {
        private static final int LONGEST = 120, MOST_OPEN = 6, LAST_LEVEL = 5;
        private static final int NUMBER = 'n', NEGATE = 'm';

        private final int[] tape = new int[LONGEST];
        private int fed = 0;
        private int at = 0;
        private boolean wrong = false;
        private int[] signs = new int[LONGEST + 1];
        private int[] numbers = new int[LONGEST + 1];
        private int size = 0;
        // a text is read into these, so that one with a fault leaves the law as it is
        private int[] newSigns = new int[LONGEST + 1];
        private int[] newNumbers = new int[LONGEST + 1];
        private int newSize = 0;
        private final int[] stack = new int[LONGEST + 1];

        boolean take(int letter) {
            if (fed >= LONGEST) return false;
            tape[fed] = letter;
            fed++;
            return true;
        }

        int fed() {
            return fed;
        }

        boolean isTold() {
            return size > 0;
        }

        /** The fault of the tape; -1: none, and it is the law now. */
        int read() {
            at = 0;
            wrong = false;
            newSize = 0;
            for (int lines = 0; lines <= LONGEST; lines++) {
                readLine();
                if (wrong || at >= fed) break;
                wrong = tape[at] != ';';
                if (wrong) break;
                at++;
            }
            fed = 0;
            if (wrong) return at;
            int[] oldSigns = signs;
            int[] oldNumbers = numbers;
            signs = newSigns;
            numbers = newNumbers;
            size = newSize;
            newSigns = oldSigns;
            newNumbers = oldNumbers;
            return -1;
        }

        private int peek() {
            return at < fed ? tape[at] : -1;
        }

        private int emit(int sign, int number) {
            int place = Math.min(newSize, LONGEST);
            newSigns[place] = sign;
            newNumbers[place] = number;
            newSize = place + 1;
            return place;
        }

        private void readLine() {
            readLevel(0, 0);
            if (wrong) return;
            if (peek() != '?') {
                emit(';', 0);
                return;
            }
            at++;
            int asked = emit('?', 0);
            readLevel(0, 0);
            newNumbers[asked] = emit(';', 0);
        }

        /** Signs of one level bind alike, those of a higher one closer; open: how many of ( ! - stand open. */
        private void readLevel(int level, int open) {
            if (level >= LAST_LEVEL) {
                readOperand(open);
                return;
            }
            readLevel(level + 1, open);
            int most = level == 2 ? 1 : LONGEST;
            for (int n = 0; n < most; n++) {
                int sign = peek();
                if (wrong || levelOf(sign) != level) return;
                at++;
                readLevel(level + 1, open);
                emit(sign, 0);
            }
        }

        private static int levelOf(int sign) {
            switch (sign) {
                case '|': return 0;
                case '&': return 1;
                case '<': case '=': case '>': return 2;
                case '+': case '-': return 3;
                case '*': case '/': case '%': return 4;
                default: return -1;
            }
        }

        private void readOperand(int open) {
            int sign = peek();
            if (isDigit(sign)) {
                readNumber();
            } else if (isName(sign)) {
                at++;
                emit(sign, 0);
            } else if (open >= MOST_OPEN || sign != '(' && sign != '!' && sign != '-') {
                wrong = true;
            } else if (sign == '(') {
                at++;
                readLevel(0, open + 1);
                if (wrong || peek() != ')') wrong = true;
                else at++;
            } else {
                at++;
                readOperand(open + 1);
                emit(sign == '-' ? NEGATE : sign, 0);
            }
        }

        private static boolean isDigit(int sign) {
            return sign >= '0' && sign <= '9';
        }

        private static boolean isName(int sign) {
            return sign == 'd' || sign == 't' || sign == 'o' || sign == 'a' || sign == 'b';
        }

        private void readNumber() {
            int number = 0;
            for (int n = 0; n < 4 && isDigit(peek()); n++) {
                number = number * 10 + peek() - '0';
                at++;
            }
            emit(NUMBER, number);
        }

        /** What the law says of these names; 0 if no line counts. */
        int worth(int d, int t, int o, int a, int b) {
            int top = 0;
            for (int i = 0; i < size; i++) {
                int sign = signs[i];
                if (sign == ';') return top > 0 ? stack[top - 1] : 0;
                if (sign == '?') {
                    boolean counts = top > 0 && stack[top - 1] != 0;
                    top = 0;
                    // on to the line's end, never backwards: the next one begins behind it
                    if (!counts) i = Math.max(i, numbers[i]);
                } else if (sign == NEGATE || sign == '!') {
                    if (top > 0) stack[top - 1] = sign == NEGATE ? -stack[top - 1] : stack[top - 1] == 0 ? 1 : 0;
                } else if (levelOf(sign) >= 0) {
                    if (top > 1) {
                        top--;
                        stack[top - 1] = joined(sign, stack[top - 1], stack[top]);
                    }
                } else if (top < stack.length) {
                    stack[top] = sign == NUMBER ? numbers[i] : named(sign, d, t, o, a, b);
                    top++;
                }
            }
            return 0;
        }

        private static int named(int sign, int d, int t, int o, int a, int b) {
            switch (sign) {
                case 'd': return d;
                case 't': return t;
                case 'o': return o;
                case 'a': return a;
                default: return b;
            }
        }

        private static int joined(int sign, int x, int y) {
            switch (sign) {
                case '|': return x != 0 || y != 0 ? 1 : 0;
                case '&': return x != 0 && y != 0 ? 1 : 0;
                case '<': return x < y ? 1 : 0;
                case '=': return x == y ? 1 : 0;
                case '>': return x > y ? 1 : 0;
                case '+': return x + y;
                case '-': return x - y;
                case '*': return x * y;
                case '/': return y == 0 ? 0 : x / y;
                default: return y == 0 ? 0 : x % y;
            }
        }
    }

    /** Days, in thought and in deed. */
    private static final class Winter {
        private final Comb comb;
        private final LawText text;
        /** Warmths and fires as they are thought of. */
        final int[] thought = new int[HOUSES];
        private final int[] hearth = new int[HOUSES];
        private final int[] went = new int[WALLS];
        private final int[] gain = new int[HOUSES];
        /** What went through each wall on the latest day in deed. */
        final int[] latest = new int[WALLS];
        int passed = 0;

        Winter(Comb comb, LawText text) {
            this.comb = comb;
            this.text = text;
        }

        /** From the lesser house of a wall to the other one. */
        int flow(int wall, int[] warmths) {
            int from = warmths[comb.low[wall]];
            int to = warmths[comb.high[wall]];
            int d = Math.abs(from - to);
            // no more than half of it can go: no need to work out the law
            if (d < 2) return 0;
            int t = comb.thick[wall];
            int o = comb.door[wall];
            int lawful = text.isTold() ? text.worth(d, t, o, Math.max(from, to), Math.min(from, to)) : d / (t + 1) / 6 + o;
            int much = Math.max(0, Math.min(d / 2, lawful));
            return from < to ? -much : much;
        }

        private void begin() {
            System.arraycopy(comb.warm, 0, thought, 0, HOUSES);
            System.arraycopy(comb.fire, 0, hearth, 0, HOUSES);
        }

        /** One day in thought: whether it changed anything. */
        private boolean pass() {
            for (int h = 0; h < HOUSES; h++) {
                gain[h] = hearth[h] - comb.frost * (SIDES - comb.sides[h]);
            }
            for (int w = 0; w < WALLS; w++) {
                went[w] = flow(w, thought);
                gain[comb.low[w]] -= went[w];
                gain[comb.high[w]] += went[w];
            }
            boolean changed = false;
            for (int h = 0; h < HOUSES; h++) {
                int then = Math.max(0, Math.min(MOST_WARM, thought[h] + gain[h]));
                if (then != thought[h]) changed = true;
                thought[h] = then;
            }
            return changed;
        }

        private void passAll(int k) {
            boolean changed = true;
            // what a day leaves as it was, each later one leaves too, with the same going through each wall
            for (int day = 0; day < k && changed; day++) changed = pass();
        }

        void think(int k) {
            begin();
            passAll(k);
        }

        int daysTillStill() {
            begin();
            for (int k = 0; k <= STILL_DAYS; k++) {
                if (!pass()) return k;
            }
            return NOT;
        }

        int goneThrough(int wall, int k) {
            begin();
            int all = 0;
            for (int day = 0; day < k; day++) {
                pass();
                all += went[wall];
            }
            return all;
        }

        int fireFor(int house, int warmth, int k) {
            for (int f = 0; f <= MOST_FIRE; f++) {
                begin();
                hearth[house] = f;
                passAll(k);
                if (thought[house] >= warmth) return f;
            }
            return NOT;
        }

        void live(int k) {
            begin();
            passAll(k);
            System.arraycopy(thought, 0, comb.warm, 0, HOUSES);
            System.arraycopy(went, 0, latest, 0, WALLS);
            passed += k;
        }
    }

    /** How thick walls should be, and how they are painted. */
    private static final class Masonry {
        static final int COLOURS = 6;
        private static final int MOST_ROUNDS = 99;

        private final Comb comb;
        private final int[] thick = new int[WALLS];
        private final int[] load = new int[HOUSES];
        private final int[] paints = new int[WALLS];

        Masonry(Comb comb) {
            this.comb = comb;
        }

        int agreed(int wall, int asItIs) {
            int a = comb.low[wall];
            int b = comb.high[wall];
            if (comb.lived[a] == 1 && comb.lived[b] == 1) return (comb.want[a] + comb.want[b]) / 2;
            if (comb.lived[a] == 1) return comb.want[a];
            return comb.lived[b] == 1 ? comb.want[b] : asItIs;
        }

        /** How many rounds change something; thick is as they leave it. */
        int settle() {
            System.arraycopy(comb.thick, 0, thick, 0, WALLS);
            for (int h = 0; h < HOUSES; h++) load[h] = comb.load(h, thick);
            for (int n = 0; n <= MOST_ROUNDS; n++) {
                if (!goRound()) return n;
            }
            return NOT;
        }

        int thickThen(int wall) {
            return thick[wall];
        }

        private boolean goRound() {
            boolean changed = false;
            for (int w = 0; w < WALLS; w++) {
                int step = Integer.compare(agreed(w, thick[w]), thick[w]);
                int a = comb.low[w];
                int b = comb.high[w];
                if (step > 0 && (load[a] >= comb.bear || load[b] >= comb.bear)) step = 0;
                thick[w] += step;
                load[a] += step;
                load[b] += step;
                if (step != 0) changed = true;
            }
            return changed;
        }

        int clashes() {
            return clashesOf(comb.colour);
        }

        private int clashesOf(int[] colours) {
            int all = 0;
            for (int w = 0; w < WALLS; w++) all += alike(w, colours[w], colours);
            // each pair was met from both of its walls
            return all / 2;
        }

        /** How many walls of a wall's two houses, but for itself, have a colour. */
        private int alike(int wall, int colour, int[] colours) {
            return alikeIn(comb.low[wall], wall, colour, colours) + alikeIn(comb.high[wall], wall, colour, colours);
        }

        private int alikeIn(int house, int wall, int colour, int[] colours) {
            int many = 0;
            for (int s = 0; s < comb.sides[house]; s++) {
                int w = comb.wallAt[house * SIDES + s];
                if (w != wall && colours[w] == colour) many++;
            }
            return many;
        }

        int calmest(int wall, int[] colours) {
            int best = 0;
            for (int c = 1; c < COLOURS; c++) {
                if (alike(wall, c, colours) < alike(wall, best, colours)) best = c;
            }
            return best;
        }

        int calmed() {
            System.arraycopy(comb.colour, 0, paints, 0, WALLS);
            for (int w = 0; w < WALLS; w++) paints[w] = calmest(w, paints);
            return clashesOf(paints);
        }

        int pots() {
            int seen = 0;
            for (int w = 0; w < WALLS; w++) seen |= 1 << comb.colour[w];
            return Integer.bitCount(seen);
        }
    }

    /** Ways by doors, and noises through walls. */
    private static final class Ways {
        /** The company of all at the edge: above each house's number, so that it swallows the others. */
        private static final int OUT = HOUSES;
        private static final int FAR = 1000000;

        private final Comb comb;
        private final int[] company = new int[HOUSES];
        private final int[] loss = new int[HOUSES];

        Ways(Comb comb) {
            this.comb = comb;
        }

        int steps(int a, int b) {
            int reached = 1 << a;
            for (int n = 0; n < HOUSES; n++) {
                if ((reached >> b & 1) == 1) return n;
                reached |= besides(reached);
            }
            return NOT;
        }

        private int besides(int houses) {
            int found = 0;
            for (int w = 0; w < WALLS; w++) {
                if (comb.door[w] == 0) continue;
                if ((houses >> comb.low[w] & 1) == 1) found |= 1 << comb.high[w];
                if ((houses >> comb.high[w] & 1) == 1) found |= 1 << comb.low[w];
            }
            return found;
        }

        /** Houses that reach one another by doors are one company; all at the edge are OUT. */
        private void gather() {
            for (int h = 0; h < HOUSES; h++) company[h] = comb.atEdge(h) ? OUT : h;
            for (int w = 0; w < WALLS; w++) {
                if (comb.door[w] == 1) join(company[comb.low[w]], company[comb.high[w]]);
            }
        }

        private void join(int one, int other) {
            for (int h = 0; h < HOUSES; h++) {
                if (company[h] == one || company[h] == other) company[h] = Math.max(one, other);
            }
        }

        int shutIn() {
            gather();
            int many = 0;
            for (int h = 0; h < HOUSES; h++) {
                if (comb.lived[h] == 1 && company[h] != OUT) many++;
            }
            return many;
        }

        int friends() {
            int many = 0;
            for (int w = 0; w < WALLS; w++) {
                many += comb.door[w] & comb.lived[comb.low[w]] & comb.lived[comb.high[w]];
            }
            return many;
        }

        /**
         * Each house has a wall to one at the edge, so one door for each company that wants out is enough, and a
         * company where nobody lives would only cost more. Among those left the least walls that join two make
         * the least number, as in each least spanning tree.
         */
        long fewestMore() {
            gather();
            int wanted = 1 << OUT;
            for (int h = 0; h < HOUSES; h++) {
                if (comb.lived[h] == 1) wanted |= 1 << company[h];
            }
            long which = 0;
            for (int w = 0; w < WALLS; w++) {
                int one = company[comb.low[w]];
                int other = company[comb.high[w]];
                if (one == other || (wanted >> one & wanted >> other & 1) == 0) continue;
                which |= 1L << w;
                join(one, other);
            }
            return which;
        }

        /** How much a noise in a house loses at least on its way to each other one. */
        private void listen(int from) {
            for (int h = 0; h < HOUSES; h++) loss[h] = h == from ? 0 : FAR;
            boolean nearer = true;
            for (int round = 0; round < HOUSES && nearer; round++) {
                nearer = false;
                for (int w = 0; w < WALLS; w++) {
                    int less = comb.door[w] == 1 ? 3 : 3 + 2 * comb.thick[w];
                    if (pass(comb.low[w], comb.high[w], less) || pass(comb.high[w], comb.low[w], less)) nearer = true;
                }
            }
        }

        private boolean pass(int from, int to, int less) {
            if (loss[from] + less >= loss[to]) return false;
            loss[to] = loss[from] + less;
            return true;
        }

        int loudness(int a, int b, int loud) {
            listen(a);
            return Math.max(0, loud - loss[b]);
        }

        int sources(int loud, int told) {
            int found = 0;
            for (int h = 0; h < HOUSES; h++) {
                if (comb.lived[h] == 1 && (hearers(h, loud) | 1 << h) == (told | 1 << h)) found |= 1 << h;
            }
            return found;
        }

        private int hearers(int from, int loud) {
            listen(from);
            int found = 0;
            for (int h = 0; h < HOUSES; h++) {
                if (loud > loss[h]) found |= 1 << h;
            }
            return found;
        }
    }

    /** Who lives where, year by year, and the image of it. */
    private static final class Families {
        private final Comb comb;
        private final int[] imageWarm = new int[HOUSES];
        private final int[] imageLived = new int[HOUSES];
        private boolean imaged = false;

        Families(Comb comb) {
            this.comb = comb;
        }

        /** Who lives beside an empty house with most want; -1: nobody. */
        int taker(int house) {
            int best = -1;
            for (int s = 0; s < comb.sides[house]; s++) {
                int next = comb.nextAt[house * SIDES + s];
                if (comb.lived[next] == 1 && (best < 0 || comb.want[next] > comb.want[best])) best = next;
            }
            return best;
        }

        void takeIn(int house, int who) {
            comb.lived[house] = 1;
            comb.want[house] = comb.want[who];
            int between = comb.wallBetween(house, who);
            if (between >= 0) comb.door[between] = 1;
        }

        void grow(int seed, int years) {
            int z = seed;
            for (int year = 0; year < years; year++) {
                for (int h = 0; h < HOUSES; h++) {
                    if (comb.lived[h] == 0) continue;
                    z = z * 1103515245 + 12345;
                    befall(h, (z >>> 8) % 12);
                }
            }
        }

        private void befall(int house, int draw) {
            switch (draw) {
                case 0: bear(house); break;
                case 1: feud(house); break;
                case 2: comb.fire[house] = Math.min(MOST_FIRE, comb.fire[house] + 1); break;
                case 3: comb.fire[house] = Math.max(0, comb.fire[house] - 1); break;
                default: break;
            }
        }

        private void bear(int house) {
            for (int s = 0; s < comb.sides[house]; s++) {
                int next = comb.nextAt[house * SIDES + s];
                if (comb.lived[next] == 1) continue;
                comb.lived[next] = 1;
                comb.want[next] = comb.want[house];
                return;
            }
        }

        private void feud(int house) {
            for (int s = 0; s < comb.sides[house]; s++) {
                int wall = comb.wallAt[house * SIDES + s];
                if (comb.door[wall] == 0) continue;
                comb.door[wall] = 0;
                return;
            }
        }

        void keepImage() {
            System.arraycopy(comb.warm, 0, imageWarm, 0, HOUSES);
            System.arraycopy(comb.lived, 0, imageLived, 0, HOUSES);
            imaged = true;
        }

        boolean layBack() {
            if (!imaged) return false;
            System.arraycopy(imageWarm, 0, comb.warm, 0, HOUSES);
            System.arraycopy(imageLived, 0, comb.lived, 0, HOUSES);
            return true;
        }
    }

    /** The latest changes, those that were undone behind those that stand. */
    private static final class History {
        private static final int MOST = 40;

        private final Comb comb;
        private final int[] number = new int[MOST];
        private final int[] what = new int[MOST];
        private final int[] before = new int[MOST];
        private final int[] after = new int[MOST];
        private int standing = 0;
        private int kept = 0;

        History(Comb comb) {
            this.comb = comb;
        }

        void record(int ofNumber, int ofWhat, int was, int is) {
            if (standing >= MOST) {
                dropOldest(number);
                dropOldest(what);
                dropOldest(before);
                dropOldest(after);
                standing = MOST - 1;
            }
            number[standing] = ofNumber;
            what[standing] = ofWhat;
            before[standing] = was;
            after[standing] = is;
            standing++;
            kept = standing;
        }

        private static void dropOldest(int[] column) {
            System.arraycopy(column, 1, column, 0, MOST - 1);
        }

        int undoable() {
            return standing;
        }

        int takeBack() {
            if (standing == 0) return STATE;
            standing--;
            comb.tell(number[standing], what[standing], before[standing]);
            return standing;
        }

        int doAgain() {
            if (standing >= kept) return STATE;
            comb.tell(number[standing], what[standing], after[standing]);
            standing++;
            return kept - standing;
        }
    }

    /** Cells by their kinds, and acts whose bodies may come from a kind above. */
    private static final class Cells {
        private static final int MOST = 50, TRACED = 24, ACTS = 4, DEEPEST = 40;
        private static final int WARMS = 0, WALLED = 1, PIPES = 2, TELLS = 3;
        private static final int[] ABOVE = {-1, 0, 0, 2, 1, 3, 0, 4};
        /** By kinds, then by acts: the number of the kind's own body, 0 for none; an interface's is CELL's. */
        private static final int[] BODIES = {
            1, 10, 11, 2,
            20, 0, 0, 0,
            0, 30, 0, 0,
            0, 41, 40, 0,
            0, 0, 50, 0,
            0, 0, 0, 60,
            70, 0, 0, 0,
            0, 80, 0, 81,
        };

        private final int[] kinds = new int[MOST];
        private int many = 0;
        private final int[] traced = new int[TRACED];
        private int ran = 0;
        /** The cell that acts. */
        private int self = 0;

        int many() {
            return many;
        }

        int ran() {
            return ran;
        }

        boolean isKind(int kind) {
            return kind >= 0 && kind < ABOVE.length;
        }

        boolean isBody(int body) {
            return body >= 0 && body < many;
        }

        int add(int kind) {
            if (many >= MOST) return FULL;
            kinds[many] = kind;
            many++;
            return many - 1;
        }

        int kindOf(int body) {
            return isBody(body) ? kinds[body] : BAD;
        }

        boolean isUnder(int body, int kind) {
            int k = kindOf(body);
            for (int n = 0; n < ABOVE.length && k >= 0; n++) {
                if (k == kind) return true;
                k = ABOVE[k];
            }
            return false;
        }

        int ranAt(int i) {
            return i >= 0 && i < Math.min(ran, TRACED) ? traced[i] : BAD;
        }

        int run(int body, int act, int x) {
            ran = 0;
            if (!isBody(body) || act < 0 || act >= ACTS) return 0;
            self = body;
            return from(kinds[body], act, x, 0);
        }

        private int own(int act, int x, int depth) {
            return from(kinds[self], act, x, depth);
        }

        /** The act by the first body from a kind on upwards. */
        private int from(int kind, int act, int x, int depth) {
            int k = kind;
            for (int n = 0; n < ABOVE.length && k >= 0 && BODIES[k * ACTS + act] == 0; n++) k = ABOVE[k];
            if (k < 0 || depth >= DEEPEST) return 0;
            int body = BODIES[k * ACTS + act];
            if (ran < TRACED) traced[ran] = body;
            ran++;
            return perform(body, ABOVE[k], x, depth + 1);
        }

        private int perform(int body, int above, int x, int depth) {
            switch (body) {
                case 1: return x + self;
                case 2: return own(WALLED, x, depth) - own(PIPES, 1, depth);
                case 10: return own(WARMS, x, depth) * 2;
                case 11: return x ^ self;
                case 20: return from(above, WARMS, x, depth) + 3;
                case 30: return -from(above, WALLED, x, depth);
                case 40: return from(above, PIPES, x, depth) * 3;
                case 41: return from(above, WALLED, x + 1, depth);
                case 50: return from(above, PIPES, x, depth) - own(WARMS, 2, depth);
                case 60: return from(above, TELLS, x, depth) ^ 5;
                case 70: return from(above, WARMS, x, depth) * 2;
                case 80: return from(above, WALLED, x, depth) + own(PIPES, 2, depth);
                case 81: return from(above, TELLS, x, depth) - 1;
                default: return 0;
            }
        }
    }

    /** What the shelves hold: nothing, a cell or a row. */
    private static final class Shelves {
        static final int LONGEST = 60;
        private static final int MANY = 6, NONE = -1, BYTES = 0, SHORTS = 1, INTS = 2, LONGS = 3, BOOLEANS = 4, CELL = 5;

        private final int[] held = new int[MANY];
        private final int[] cell = new int[MANY];
        private final int[] size = new int[MANY];
        // each shelf has room for the longest row from the first: rows come and go without new memory
        private final long[][] rows = new long[MANY][LONGEST];

        Shelves() {
            for (int s = 0; s < MANY; s++) held[s] = NONE;
        }

        boolean isShelf(int shelf) {
            return shelf >= 0 && shelf < MANY;
        }

        boolean isSort(int sort) {
            return sort >= BYTES && sort <= BOOLEANS;
        }

        boolean isBare(int shelf) {
            return held[shelf] == NONE;
        }

        boolean mayBeBytes(int shelf) {
            return held[shelf] == NONE || held[shelf] == BYTES;
        }

        /** The body on a shelf; -1: none is there. */
        int cellOn(int shelf) {
            return held[shelf] == CELL ? cell[shelf] : -1;
        }

        void hold(int shelf, int body) {
            held[shelf] = body < 0 ? NONE : CELL;
            cell[shelf] = body;
            size[shelf] = 0;
        }

        void lay(int shelf, int sort, int n) {
            held[shelf] = sort;
            size[shelf] = n;
            for (int i = 0; i < LONGEST; i++) rows[shelf][i] = 0;
        }

        boolean hasPlace(int shelf, int i) {
            return i >= 0 && i < size[shelf];
        }

        boolean hasStretch(int shelf, int i, int n) {
            return i >= 0 && n >= 0 && n <= size[shelf] && i <= size[shelf] - n;
        }

        /** Why there is no row here; 0: there is one. */
        private int refusalOfRow(int shelf) {
            if (!isShelf(shelf)) return BAD;
            if (held[shelf] == NONE) return NOTHING_THERE;
            return held[shelf] == CELL ? OTHER_KIND : 0;
        }

        int refusal(int shelf, int i) {
            int refused = refusalOfRow(shelf);
            if (refused != 0) return refused;
            return hasPlace(shelf, i) ? 0 : NO_PLACE;
        }

        int refusalOfTwo(int shelf, int other) {
            int one = refusalOfRow(shelf);
            int two = refusalOfRow(other);
            if (one == BAD || two == BAD) return BAD;
            if (one == NOTHING_THERE || two == NOTHING_THERE) return NOTHING_THERE;
            if (one != 0 || two != 0 || held[shelf] != held[other]) return OTHER_KIND;
            return 0;
        }

        long at(int shelf, int i) {
            return rows[shelf][i];
        }

        void set(int shelf, int i, long v) {
            rows[shelf][i] = narrowed(held[shelf], v);
        }

        void move(int shelf, int i, int other, int j, int n) {
            System.arraycopy(rows[shelf], i, rows[other], j, n);
        }

        private static long narrowed(int sort, long v) {
            switch (sort) {
                case BYTES: return (byte) v;
                case SHORTS: return (short) v;
                case INTS: return (int) v;
                case LONGS: return v;
                default: return v != 0 ? 1 : 0;
            }
        }
    }
}
