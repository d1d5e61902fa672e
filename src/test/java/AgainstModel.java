import java.util.ArrayList;
import java.util.Arrays;
import java.util.List;
import java.util.Random;
import java.util.TreeMap;

/** Long runs of drawn calls, each answer held against a second, slower working out of the document. */
public final class AgainstModel {
    private static final String[] LAWS = {
        "d/(t+1)+o*2-b/30", "d>20?d/3;o?d/2;1", "d", "-d", "a%7*o|b&t", "!(t<3)*d/4;3", "0?d;t=3?2;5",
        "d*9999*9999*9999/7%100", "(d-10)*(t+1)/2", "d/(t-3)+d%(t-3)", "!!d+--t*2", "a>b&t<5?d/2-1;0",
        "d-1-1", "d/2/2", "t-3?d/2", "((((((d/5))))))", "!-!-!-d+d/3", "d=d+0", "1|0*0&0", "d%5%3+t*0",
        "d<9?2;d<20?4;d<40?9;20", "b-a+d*2", "0001+0", "d+", "d++d", "d<t<o", "(d", "d)", "12345", "", ";", "d;",
        "!!!---(d", "!!!---d", "(((((((d)))))))", "d?", "d?1?2", "d ?1", "x", "1d", "d1", "d=1=2", "(d?1)", "9999*t",
    };
    private static final String SIGNS = "dtoab0123456789()!-+*/%<=>&|?;; x";

    private static int wrong = 0;

    public static void main(String[] args) {
        for (int run = 0; run < 150 && wrong < 20; run++) oneRun(run);
        for (int run = 0; run < 600 && wrong < 20; run++) lawRun(run);
        System.out.println(wrong == 0 ? "all answers are the model's" : wrong + " answers are not the model's");
        if (wrong != 0) System.exit(1);
    }

    private static void due(String call, long got, long want) {
        if (got == want) return;
        wrong++;
        System.out.println(call + " answered " + got + ", the model " + want);
    }

    private static void lawRun(int run) {
        Random draw = new Random(7000 + run);
        SixWalls x = new SixWalls();
        Model m = new Model();
        for (int part = 0; part < 6; part++) {
            StringBuilder text = new StringBuilder();
            if (part < 3) {
                int most = draw.nextInt(40);
                for (int i = 0; i < most; i++) text.append(SIGNS.charAt(draw.nextInt(SIGNS.length())));
            } else {
                grow(draw, text, 0, 4);
                if (draw.nextBoolean()) {
                    text.append('?');
                    grow(draw, text, 0, 3);
                    text.append(';');
                    grow(draw, text, 0, 3);
                }
                if (part == 5 && text.length() > 0) {
                    text.setCharAt(draw.nextInt(text.length()), SIGNS.charAt(draw.nextInt(SIGNS.length())));
                }
            }
            feed(run + " " + text, x, m, text.toString());
            for (int n = 0; n < 4; n++) {
                int house = draw.nextInt(16);
                int fire = draw.nextInt(10);
                due("mend", x.mend(house, 0, fire), m.mend(house, 0, fire));
                due(run + " days behind " + text, x.days(2), m.days(2));
            }
            for (int w = 0; w < 33; w++) due(run + " of(" + w + ", 15) " + text, x.of(w, 15), m.of(w, 15));
        }
    }

    private static void grow(Random draw, StringBuilder text, int open, int deep) {
        int parts = 1 + draw.nextInt(3);
        for (int p = 0; p < parts; p++) {
            if (p > 0) text.append("+-*/%<=>&|+*/".charAt(draw.nextInt(13)));
            int kind = deep == 0 || open > 5 ? draw.nextInt(4) : draw.nextInt(7);
            if (kind < 3) text.append("dtoabdd".charAt(draw.nextInt(7)));
            else if (kind == 3) text.append(draw.nextInt(draw.nextBoolean() ? 10 : 2000));
            else if (kind == 4) {
                text.append('(');
                grow(draw, text, open + 1, deep - 1);
                text.append(')');
            } else {
                text.append(kind == 5 ? '!' : '-').append("dtoab".charAt(draw.nextInt(5)));
            }
        }
    }

    private static void feed(String told, SixWalls x, Model m, String text) {
        for (int i = 0; i < text.length(); i++) due(told + " feed", x.feed(text.charAt(i)), m.feed(text.charAt(i)));
        due(told + " count(3)", x.count(3), m.count(3));
        due(told + " law()", x.law(), m.law());
    }

    private static void oneRun(int run) {
        Random draw = new Random(run);
        SixWalls x = new SixWalls();
        Model m = new Model();
        for (int call = 0; call < 512 && wrong < 20; call++) oneCall("run " + run + " call " + call + ": ", draw, x, m);
    }

    /** Mostly from least to most, at times beside them. */
    private static int num(Random draw, int least, int most) {
        if (draw.nextInt(25) == 0) return draw.nextBoolean() ? least - 1 : most + 1;
        return least + draw.nextInt(most - least + 1);
    }

    private static int pair(Random draw) {
        return 100 * num(draw, 0, 15) + num(draw, 0, 15);
    }

    private static void oneCall(String at, Random draw, SixWalls x, Model m) {
        int a = num(draw, 0, 15);
        int w = num(draw, 0, 32);
        int k = num(draw, 0, draw.nextBoolean() ? 30 : 5);
        int p = pair(draw);
        int v = num(draw, 0, 9);
        int what = num(draw, 0, 2);
        int s = num(draw, 0, 5);
        int t = num(draw, 0, 5);
        int i = num(draw, 0, draw.nextBoolean() ? 8 : 59);
        int j = num(draw, 0, draw.nextBoolean() ? 8 : 59);
        switch (draw.nextInt(52)) {
            case 0: due(at + "wall " + p, x.wall(p), m.wall(p)); break;
            case 1: case 2: case 3: case 4: case 5: case 6: {
                int how = num(draw, 0, 6);
                int number = how < 2 ? a : how < 5 ? w : draw.nextInt(20) == 0 ? 1 : 0;
                int to = how == 3 ? num(draw, 0, 1) : how == 4 ? num(draw, 0, 5) : how == 6 ? num(draw, 6, 54) : v;
                due(at + "mend " + number + " " + how + " " + to, x.mend(number, how, to), m.mend(number, how, to));
                break;
            }
            case 7: case 8: {
                int how = num(draw, 0, 5);
                due(at + "of " + a + " " + how, x.of(a, how), m.of(a, how));
                how = num(draw, 10, 15);
                due(at + "of " + w + " " + how, x.of(w, how), m.of(w, how));
                how = num(draw, 20, 21);
                due(at + "of 0 " + how, x.of(0, how), m.of(0, how));
                break;
            }
            case 9: case 10: {
                int hn = 100 * num(draw, 0, 15) + num(draw, 1, 16);
                due(at + "fires " + s + " " + i + " " + hn, x.fires(s, i, hn), m.fires(s, i, hn));
                break;
            }
            case 11: {
                String law = LAWS[draw.nextInt(LAWS.length)];
                if (draw.nextInt(3) == 0) feed(at + law, x, m, law);
                break;
            }
            case 12: due(at + "feed", x.feed(i * 5), m.feed(i * 5)); break;
            case 13: due(at + "warmth " + a + " " + k, x.warmth(a, k), m.warmth(a, k)); break;
            case 14: due(at + "cold " + i + " " + k, x.cold(i, k), m.cold(i, k)); break;
            case 15: due(at + "still", x.still(), m.still()); break;
            case 16: due(at + "gave " + w + " " + k, x.gave(w, k), m.gave(w, k)); break;
            case 17: {
                int wk = 100 * num(draw, 0, 99) + num(draw, 0, 30);
                due(at + "leastFire " + a + " " + wk, x.leastFire(a, wk), m.leastFire(a, wk));
                break;
            }
            case 18: due(at + "days " + k, x.days(k), m.days(k)); break;
            case 19: due(at + "led " + w, x.led(w), m.led(w)); break;
            case 20: due(at + "rounds " + w, x.rounds(w), m.rounds(w)); break;
            case 21: due(at + "rounds -1", x.rounds(-1), m.rounds(-1)); break;
            case 22: due(at + "way " + p, x.way(p), m.way(p)); break;
            case 23: due(at + "doors " + what, x.doors(what), m.doors(what)); break;
            case 24:
                if (draw.nextInt(4) == 0) due(at + "opened " + what, x.opened(what), m.opened(what));
                break;
            case 25: due(at + "heard " + p + " " + (k * 3), x.heard(p, k * 3), m.heard(p, k * 3)); break;
            case 26: {
                int loud = num(draw, 0, 30);
                int told = draw.nextInt(8) == 0 ? num(draw, 0, 65535) : m.hearers(Math.max(0, Math.min(15, a)), loud);
                due(at + "whose " + loud + " " + told, x.whose(loud, told), m.whose(loud, told));
                break;
            }
            case 27: due(at + "colours " + what, x.colours(what), m.colours(what)); break;
            case 28: due(at + "paint " + w, x.paint(w), m.paint(w)); break;
            case 29: case 30: due(at + "empty " + a, x.empty(a), m.empty(a)); break;
            case 31: {
                int how = num(draw, 0, 1);
                due(at + "takes " + a + " " + how, x.takes(a, how), m.takes(a, how));
                break;
            }
            case 32: due(at + "where " + k, x.where(k), m.where(k)); break;
            case 33: {
                int seed = draw.nextInt();
                int n = num(draw, 1, draw.nextBoolean() ? 20 : 2);
                if (draw.nextInt(3) == 0) due(at + "years " + seed + " " + n, x.years(seed, n), m.years(seed, n));
                break;
            }
            case 34: due(at + "image", x.image(), m.image()); break;
            case 35: due(at + "back", x.back(), m.back()); break;
            case 36: case 37: due(at + "undo", x.undo(), m.undo()); break;
            case 38: due(at + "redo", x.redo(), m.redo()); break;
            case 39: case 40: due(at + "body", x.body(num2(v)), m.body(num2(v))); break;
            case 41: case 42: {
                int what4 = num(draw, 0, 3);
                int y = draw.nextInt(3) == 0 ? draw.nextInt() : draw.nextInt(40) - 20;
                due(at + "act " + a + " " + what4 + " " + y, x.act(a, what4, y), m.act(a, what4, y));
                for (int n = -1; n < 25; n++) due(at + "trace " + n, x.trace(n), m.trace(n));
                break;
            }
            case 43: {
                int body = num(draw, -1, 12);
                due(at + "keep " + s + " " + body, x.keep(s, body), m.keep(s, body));
                break;
            }
            case 44: case 45: {
                int sort = draw.nextBoolean() ? 0 : num(draw, 0, 4);
                int n = draw.nextBoolean() ? num(draw, 0, 60) : num(draw, 8, 12);
                due(at + "row " + s + " " + sort + " " + n, x.row(s, sort, n), m.row(s, sort, n));
                break;
            }
            case 46: case 47: {
                long e = draw.nextInt(3) == 0 ? draw.nextLong() >> draw.nextInt(60) : draw.nextInt(11);
                for (int n = 0; n < 4; n++) due(at + "put " + s + " " + (i + n), x.put(s, i + n, e), m.put(s, i + n, e));
                break;
            }
            case 48: due(at + "element " + s + " " + i, x.element(s, i), m.element(s, i)); break;
            case 49: {
                int n = num(draw, 0, 8);
                due(at + "shift " + s + " " + i + " " + t + " " + j + " " + n, x.shift(s, i, t, j, n), m.shift(s, i, t, j, n));
                break;
            }
            case 50: due(at + "taken " + s + " " + v, x.taken(s, v), m.taken(s, v)); break;
            default: {
                int of = num(draw, 0, 6);
                due(at + "count " + of, x.count(of), m.count(of));
            }
        }
    }

    private static int num2(int v) {
        return v == 9 ? -1 : v;
    }

    // ---- the model: another way to each answer where there is one

    private static final class Fault extends RuntimeException {
        private static final long serialVersionUID = 1L;
    }

    private static final class Model {
        static final int V = -2000000000;
        final TreeMap<Integer, Integer> walls = new TreeMap<>();
        final int[] pairs = new int[33];
        int[] lived = new int[16], fire = new int[16], warm = new int[16], want = new int[16];
        int[] thick = new int[33], door = new int[33], colour = new int[33];
        int[] misc = {2, 30};
        int[] lastFlow = null, imageWarm = null, imageLived = null;
        int passed = 0;
        String tape = "", law = null;
        final List<int[]> done = new ArrayList<>(), undone = new ArrayList<>();
        final List<Kind> bodies = new ArrayList<>();
        final List<Integer> ran = new ArrayList<>();
        final Object[] shelf = new Object[6];

        Model() {
            Arrays.fill(lived, 1);
            Arrays.fill(warm, 20);
            Arrays.fill(want, 4);
            Arrays.fill(thick, 3);
            for (int a = 0; a < 16; a++) for (int b = a + 1; b < 16; b++) if (near(a, b)) walls.put(100 * a + b, 0);
            int n = 0;
            for (int ab : walls.keySet()) pairs[n++] = ab;
            for (n = 0; n < 33; n++) walls.put(pairs[n], n);
        }

        /** In half houses: two apart in one row, one apart in rows that touch. */
        static boolean near(int a, int b) {
            int dx = Math.abs(2 * (a % 4) + a / 4 % 2 - 2 * (b % 4) - b / 4 % 2);
            int dy = Math.abs(a / 4 - b / 4);
            return dy == 0 ? dx == 2 : dy == 1 && dx == 1;
        }

        static boolean in(int v, int lo, int hi) { return lo <= v && v <= hi; }
        static boolean pair(int ab) { return ab >= 0 && ab / 100 < 16 && ab % 100 < 16; }
        static int total(int[] v) { return Arrays.stream(v).sum(); }
        int lo(int w) { return pairs[w] / 100; }
        int hi(int w) { return pairs[w] % 100; }
        int between(int a, int b) { return walls.getOrDefault(100 * Math.min(a, b) + Math.max(a, b), -2); }
        int degree(int h) {
            int n = 0;
            for (int g = 0; g < 16; g++) if (near(h, g)) n++;
            return n;
        }

        int wall(int ab) {
            if (!pair(ab) || ab / 100 == ab % 100) return -1;
            return between(ab / 100, ab % 100);
        }

        int[] column(int what) {
            switch (what) {
                case 0: return fire;
                case 1: return want;
                case 2: return thick;
                case 3: return door;
                case 4: return colour;
                default: return misc;
            }
        }

        int mend(int number, int what, int v) {
            if (!in(what, 0, 6) || number < 0) return -1;
            int numbers = what < 2 ? 16 : what < 5 ? 33 : 1;
            int least = what == 6 ? 6 : 0;
            int most = new int[] {9, 9, 9, 1, 5, 9, 54}[what];
            if (number >= numbers || !in(v, least, most)) return -1;
            int place = what == 6 ? 1 : number;
            int was = column(what)[place];
            if (was == v) return was;
            column(what)[place] = v;
            undone.clear();
            done.add(new int[] {what, place, was, v});
            if (done.size() > 40) done.remove(0);
            return was;
        }

        int of(int n, int what) {
            if (in(what, 0, 5) && in(n, 0, 15)) {
                int loads = 0;
                for (int w = 0; w < 33; w++) if (lo(w) == n || hi(w) == n) loads += thick[w];
                return new int[] {fire[n], want[n], warm[n], lived[n], degree(n), loads}[what];
            }
            if (in(what, 10, 15) && in(n, 0, 32)) {
                return new int[] {thick[n], door[n], colour[n], pairs[n], agreed(n, thick), flow(n, warm)}[what - 10];
            }
            return n == 0 && in(what, 20, 21) ? misc[what - 20] : V;
        }

        int fires(int s, int i, int hn) {
            if (!in(s, 0, 5) || hn < 0 || hn / 100 > 15 || !in(hn % 100, 1, 16)) return -1;
            if (shelf[s] != null && !(shelf[s] instanceof byte[])) return -12;
            byte[] row = (byte[]) shelf[s];
            int came = 0;
            try {
                for (; came < hn % 100; came++) {
                    if (!in(row[i + came], 0, 9)) break;
                    fire[hn / 100 + came] = row[i + came];
                }
            } catch (NullPointerException | ArrayIndexOutOfBoundsException e) {
                return came;
            }
            return came;
        }

        int feed(int c) {
            if (!in(c, 0, 255)) return -1;
            if (tape.length() >= 120) return -3;
            tape += (char) c;
            return tape.length();
        }

        // ---- the law: a text is cut at its signs, from the ones that bind least

        int law() {
            String text = tape;
            tape = "";
            if (isText(text)) {
                law = text;
                return 1;
            }
            for (int n = 1; n <= text.length(); n++) {
                if (!goesOn(text.substring(0, n))) return -100 - (n - 1);
            }
            return -100 - text.length();
        }

        static boolean goesOn(String prefix) {
            for (int m = 0; m <= 6; m++) {
                if (isText(prefix + ")".repeat(m)) || isText(prefix + "d" + ")".repeat(m))) return true;
            }
            return false;
        }

        static boolean isText(String s) {
            try {
                worth(s, 1, 1, 1, 1, 1);
                return true;
            } catch (Fault f) {
                return false;
            }
        }

        static int worth(String text, int... names) {
            int found = 0;
            boolean counted = false;
            for (String line : text.split(";", -1)) {
                String[] parts = line.split("\\?", -1);
                if (parts.length > 2) throw new Fault();
                int first = part(parts[0], 0, 0, names);
                int second = parts.length == 2 ? part(parts[1], 0, 0, names) : first;
                if (!counted && (parts.length == 1 || first != 0)) {
                    found = second;
                    counted = true;
                }
            }
            return found;
        }

        static final String[] LEVELS = {"|", "&", "<=>", "+-", "*/%"};

        /** Whether the sign at i stands between two operands. */
        static boolean joins(String s, int i) {
            if (i == 0) return false;
            char before = s.charAt(i - 1);
            return Character.isLetterOrDigit(before) || before == ')';
        }

        static int part(String s, int level, int open, int[] names) {
            if (level == 5) return operand(s, open, names);
            int depth = 0;
            int from = 0;
            int many = 0;
            int got = 0;
            char sign = 0;
            for (int i = 0; i <= s.length(); i++) {
                char c = i < s.length() ? s.charAt(i) : 0;
                if (c == '(') depth++;
                if (c == ')') depth--;
                boolean cut = i == s.length() || depth == 0 && LEVELS[level].indexOf(c) >= 0 && (c != '-' || joins(s, i));
                if (!cut) continue;
                int next = part(s.substring(from, i), level + 1, open, names);
                got = many == 0 ? next : join(sign, got, next);
                many++;
                sign = c;
                from = i + 1;
            }
            if (level == 2 && many > 2) throw new Fault();
            return got;
        }

        static int join(char sign, int x, int y) {
            switch (sign) {
                case '|': return x != 0 | y != 0 ? 1 : 0;
                case '&': return x != 0 & y != 0 ? 1 : 0;
                case '<': return x < y ? 1 : 0;
                case '=': return x == y ? 1 : 0;
                case '>': return x > y ? 1 : 0;
                case '+': return (int) ((long) x + y);
                case '-': return (int) ((long) x - y);
                case '*': return (int) ((long) x * y);
                case '/': return y == 0 ? 0 : (int) ((long) x / y);
                default: return y == 0 ? 0 : (int) ((long) x % y);
            }
        }

        static int operand(String s, int open, int[] names) {
            if (s.matches("[0-9]{1,4}")) return Integer.parseInt(s);
            if (s.matches("[dtoab]")) return names["dtoab".indexOf(s)];
            if (s.isEmpty() || open == 6) throw new Fault();
            char c = s.charAt(0);
            if (c == '!') return operand(s.substring(1), open + 1, names) == 0 ? 1 : 0;
            if (c == '-') return -operand(s.substring(1), open + 1, names);
            if (c != '(' || !s.endsWith(")") || s.length() < 3) throw new Fault();
            int depth = 0;
            for (int i = 0; i < s.length(); i++) {
                if (s.charAt(i) == '(') depth++;
                if (s.charAt(i) == ')') depth--;
                if (depth == 0 && i < s.length() - 1) throw new Fault();
            }
            return part(s.substring(1, s.length() - 1), 0, open + 1, names);
        }

        // ---- winters

        int flow(int w, int[] warms) {
            int a = Math.max(warms[lo(w)], warms[hi(w)]);
            int b = Math.min(warms[lo(w)], warms[hi(w)]);
            int d = a - b;
            int much = law == null ? d / (thick[w] + 1) / 6 + door[w] : worth(law, d, thick[w], door[w], a, b);
            much = much < 0 ? 0 : much > d / 2 ? d / 2 : much;
            return warms[lo(w)] == a ? much : -much;
        }

        int[][] day(int[] warms, int[] fires) {
            int[] flows = new int[33];
            int[] then = warms.clone();
            for (int w = 0; w < 33; w++) {
                flows[w] = flow(w, warms);
                then[lo(w)] -= flows[w];
                then[hi(w)] += flows[w];
            }
            for (int h = 0; h < 16; h++) {
                then[h] += fires[h] - misc[0] * (6 - degree(h));
                then[h] = then[h] < 0 ? 0 : then[h] > 99 ? 99 : then[h];
            }
            return new int[][] {then, flows};
        }

        int[] behind(int k, int[] fires) {
            int[] w = warm;
            for (int n = 0; n < k; n++) w = day(w, fires)[0];
            return w;
        }

        int warmth(int h, int k) {
            if (!in(h, -1, 15) || !in(k, 0, 30)) return -1;
            return h < 0 ? total(behind(k, fire)) : behind(k, fire)[h];
        }

        int cold(int below, int k) {
            if (!in(below, 0, 99) || !in(k, 0, 30)) return -1;
            int n = 0;
            for (int h = 0; h < 16; h++) if (lived[h] == 1 && behind(k, fire)[h] < below) n++;
            return n;
        }

        int still() {
            int[] w = warm;
            for (int k = 0; k <= 60; k++) {
                int[] next = day(w, fire)[0];
                if (Arrays.equals(w, next)) return k;
                w = next;
            }
            return -2;
        }

        int gave(int wall, int k) {
            if (!in(wall, 0, 32) || !in(k, 0, 30)) return V;
            int all = 0;
            int[] w = warm;
            for (int n = 0; n < k; n++) {
                int[][] next = day(w, fire);
                all += next[1][wall];
                w = next[0];
            }
            return all;
        }

        int leastFire(int h, int wk) {
            if (!in(h, 0, 15) || wk < 0 || wk / 100 > 99 || wk % 100 > 30) return -1;
            for (int f = 0; f < 10; f++) {
                int[] fires = fire.clone();
                fires[h] = f;
                if (behind(wk % 100, fires)[h] >= wk / 100) return f;
            }
            return -2;
        }

        int days(int k) {
            if (!in(k, 1, 30)) return -1;
            for (int n = 0; n < k; n++) {
                int[][] next = day(warm, fire);
                warm = next[0];
                lastFlow = next[1];
            }
            passed += k;
            return total(warm);
        }

        int led(int w) { return !in(w, 0, 32) ? V : lastFlow == null ? -5 : lastFlow[w]; }

        int agreed(int w, int[] th) {
            int n = lived[lo(w)] + lived[hi(w)];
            return n == 0 ? th[w] : (lived[lo(w)] * want[lo(w)] + lived[hi(w)] * want[hi(w)]) / n;
        }

        int rounds(int wall) {
            if (!in(wall, -1, 32)) return -1;
            int[] th = thick.clone();
            for (int n = 0; ; n++) {
                int[] was = th.clone();
                for (int w = 0; w < 33; w++) {
                    if (th[w] > agreed(w, th)) th[w]--;
                    else if (th[w] < agreed(w, th)) {
                        th[w]++;
                        for (int h : new int[] {lo(w), hi(w)}) {
                            int all = 0;
                            for (int v = 0; v < 33; v++) if (lo(v) == h || hi(v) == h) all += th[v];
                            if (all > misc[1]) {
                                th[w]--;
                                break;
                            }
                        }
                    }
                }
                if (Arrays.equals(was, th)) return wall < 0 ? n : th[wall];
            }
        }

        // ---- doors, noises, colours

        /** How far each house is from each other one, by walls that cost what they cost; 9999: no way. */
        int[][] far(int[] costs) {
            int[][] f = new int[16][16];
            for (int[] line : f) Arrays.fill(line, 9999);
            for (int h = 0; h < 16; h++) f[h][h] = 0;
            for (int w = 0; w < 33; w++) f[lo(w)][hi(w)] = f[hi(w)][lo(w)] = costs[w];
            for (int k = 0; k < 16; k++) {
                for (int a = 0; a < 16; a++) {
                    for (int b = 0; b < 16; b++) f[a][b] = Math.min(f[a][b], f[a][k] + f[k][b]);
                }
            }
            return f;
        }

        int[][] ways(int[] doors) {
            int[] costs = new int[33];
            for (int w = 0; w < 33; w++) costs[w] = doors[w] == 1 ? 1 : 9999;
            return far(costs);
        }

        int way(int ab) {
            if (!pair(ab)) return -1;
            int n = ways(door)[ab / 100][ab % 100];
            return n >= 9999 ? -2 : n;
        }

        int shutIn(int[] doors) {
            int[][] f = ways(doors);
            int n = 0;
            for (int h = 0; h < 16; h++) {
                boolean out = lived[h] == 0;
                for (int g = 0; g < 16; g++) if (degree(g) < 6 && f[h][g] < 9999) out = true;
                if (!out) n++;
            }
            return n;
        }

        int doors(int what) {
            if (what == 0) return shutIn(door);
            if (what != 1) return -1;
            int n = 0;
            for (int w = 0; w < 33; w++) if (door[w] == 1 && lived[lo(w)] == 1 && lived[hi(w)] == 1) n++;
            return n;
        }

        /** All sets of so many walls without a door, from that of the least number on. */
        long opened(int what) {
            if (!in(what, 0, 1)) return Long.MIN_VALUE;
            for (int many = 0; many <= 4; many++) {
                long best = least(many, 33, door.clone());
                if (best >= 0) return what == 0 ? many : best;
            }
            throw new IllegalStateException();
        }

        long least(int many, int below, int[] doors) {
            if (many == 0) return shutIn(doors) == 0 ? 0 : -1;
            long best = -1;
            for (int w = many - 1; w < below; w++) {
                if (doors[w] == 1 || inner(lo(w)) + inner(hi(w)) == 0) continue;
                doors[w] = 1;
                long rest = least(many - 1, w, doors);
                doors[w] = 0;
                if (rest >= 0 && (best < 0 || (rest | 1L << w) < best)) best = rest | 1L << w;
            }
            return best;
        }

        int inner(int h) { return degree(h) == 6 ? 1 : 0; }

        int[][] losses() {
            int[] costs = new int[33];
            for (int w = 0; w < 33; w++) costs[w] = door[w] == 1 ? 3 : 3 + 2 * thick[w];
            return far(costs);
        }

        int heard(int ab, int loud) {
            if (!pair(ab) || !in(loud, 0, 99)) return -1;
            return Math.max(0, loud - losses()[ab / 100][ab % 100]);
        }

        int hearers(int h, int loud) {
            int bits = 0;
            for (int g = 0; g < 16; g++) if (losses()[h][g] < loud) bits |= 1 << g;
            return bits;
        }

        int whose(int loud, int told) {
            if (!in(loud, 0, 99) || !in(told, 0, 65535)) return -1;
            int bits = 0;
            for (int h = 0; h < 16; h++) {
                if (lived[h] == 1 && ((hearers(h, loud) ^ told) & ~(1 << h)) == 0) bits |= 1 << h;
            }
            return bits;
        }

        int clash(int[] c) {
            int n = 0;
            for (int v = 0; v < 33; v++) {
                for (int w = v + 1; w < 33; w++) {
                    boolean one = lo(v) == lo(w) || lo(v) == hi(w) || hi(v) == lo(w) || hi(v) == hi(w);
                    if (one && c[v] == c[w]) n++;
                }
            }
            return n;
        }

        int calmest(int w, int[] c) {
            int best = 0;
            int fewest = 9999;
            for (int k = 0; k < 6; k++) {
                int[] d = c.clone();
                d[w] = k;
                if (clash(d) < fewest) {
                    fewest = clash(d);
                    best = k;
                }
            }
            return best;
        }

        int colours(int what) {
            if (what == 0) return clash(colour);
            if (what == 2) return (int) Arrays.stream(colour).distinct().count();
            if (what != 1) return -1;
            int[] c = colour.clone();
            for (int w = 0; w < 33; w++) c[w] = calmest(w, c);
            return clash(c);
        }

        int paint(int w) { return in(w, 0, 32) ? calmest(w, colour) : -1; }

        // ---- empty houses, years

        int empty(int h) {
            if (!in(h, 0, 15)) return -1;
            if (lived[h] == 0) return -5;
            lived[h] = fire[h] = 0;
            return total(lived);
        }

        int takes(int h, int what) {
            if (!in(h, 0, 15) || !in(what, 0, 1)) return -1;
            if (lived[h] == 1) return -5;
            int best = -2;
            for (int g = 15; g >= 0; g--) {
                if (near(h, g) && lived[g] == 1 && (best < 0 || want[g] >= want[best])) best = g;
            }
            if (best >= 0 && what == 1) {
                lived[h] = 1;
                want[h] = want[best];
                door[between(h, best)] = 1;
            }
            return best;
        }

        int where(int k) {
            if (!in(k, 0, 30)) return -1;
            int[] then = behind(k, fire);
            int best = -2;
            for (int h = 15; h >= 0; h--) if (lived[h] == 0 && (best < 0 || then[h] >= then[best])) best = h;
            return best;
        }

        int years(int seed, int n) {
            if (!in(n, 1, 20)) return -1;
            int z = seed;
            for (int t = 0; t < n * 16; t++) {
                int h = t % 16;
                if (lived[h] == 0) continue;
                z = z * 1103515245 + 12345;
                int draw = (z >>> 8) % 12;
                boolean over = false;
                for (int g = 0; g < 16 && !over; g++) {
                    if (!near(h, g)) continue;
                    if (draw == 0 && lived[g] == 0) {
                        lived[g] = 1;
                        want[g] = want[h];
                        over = true;
                    }
                    if (draw == 1 && door[between(h, g)] == 1) {
                        door[between(h, g)] = 0;
                        over = true;
                    }
                }
                if (draw == 2 && fire[h] < 9) fire[h]++;
                if (draw == 3 && fire[h] > 0) fire[h]--;
            }
            return total(lived);
        }

        int image() {
            imageWarm = warm.clone();
            imageLived = lived.clone();
            return total(warm);
        }

        int back() {
            if (imageWarm == null) return -5;
            warm = imageWarm.clone();
            lived = imageLived.clone();
            return total(warm);
        }

        int undo() { return turn(done, undone, 2); }
        int redo() { return turn(undone, done, 3); }

        int turn(List<int[]> from, List<int[]> to, int which) {
            if (from.isEmpty()) return -5;
            int[] change = from.remove(from.size() - 1);
            column(change[0])[change[1]] = change[which];
            to.add(change);
            return from.size();
        }

        // ---- acts, shelves: by Java's own inheritance and arrays

        int body(int kind) {
            if (!in(kind, 0, 7)) return -1;
            if (bodies.size() == 50) return -3;
            Kind[] all = {new Kind(), new Warm(), new Waxen(), new Shared(), new Middle(), new Edge(), new Empty(), new Queen()};
            all[kind].set(kind, bodies.size(), ran);
            bodies.add(all[kind]);
            return bodies.size() - 1;
        }

        int act(int b, int act, int x) {
            ran.clear();
            if (b < 0 || b >= bodies.size() || !in(act, 0, 3)) return 0;
            Kind k = bodies.get(b);
            return act == 0 ? k.warms(x) : act == 1 ? k.walls(x) : act == 2 ? k.pipes(x) : k.tells(x);
        }

        int trace(int i) { return i >= 0 && i < ran.size() && i < 24 ? ran.get(i) : -1; }

        int keep(int s, int b) {
            if (!in(s, 0, 5) || b < -1 || b >= bodies.size()) return -1;
            shelf[s] = b < 0 ? null : bodies.get(b);
            return 1;
        }

        int row(int s, int sort, int n) {
            if (!in(s, 0, 5) || !in(sort, 0, 4) || n > 60) return -1;
            if (n < 0) return -14;
            shelf[s] = sort == 0 ? new byte[n] : sort == 1 ? new short[n] : sort == 2 ? new int[n]
                : sort == 3 ? (Object) new long[n] : new boolean[n];
            return 1;
        }

        int put(int s, int i, long v) {
            if (!in(s, 0, 5)) return -1;
            Object o = shelf[s];
            if (o == null) return -11;
            if (o instanceof Kind) return -12;
            try {
                if (o instanceof byte[]) ((byte[]) o)[i] = (byte) v;
                else if (o instanceof short[]) ((short[]) o)[i] = (short) v;
                else if (o instanceof int[]) ((int[]) o)[i] = (int) v;
                else if (o instanceof long[]) ((long[]) o)[i] = v;
                else ((boolean[]) o)[i] = v != 0;
            } catch (ArrayIndexOutOfBoundsException e) {
                return -13;
            }
            return 1;
        }

        long element(int s, int i) {
            if (!in(s, 0, 5) || shelf[s] == null || shelf[s] instanceof Kind) return Long.MIN_VALUE;
            Object o = shelf[s];
            if (i < 0 || i >= java.lang.reflect.Array.getLength(o)) return Long.MIN_VALUE;
            if (o instanceof boolean[]) return ((boolean[]) o)[i] ? 1 : 0;
            return java.lang.reflect.Array.getLong(o, i);
        }

        @SuppressWarnings("SuspiciousSystemArraycopy")
        int shift(int s, int i, int t, int j, int n) {
            if (!in(s, 0, 5) || !in(t, 0, 5)) return -1;
            if (shelf[s] == null || shelf[t] == null) return -11;
            try {
                System.arraycopy(shelf[s], i, shelf[t], j, n);
            } catch (ArrayStoreException e) {
                return -12;
            } catch (IndexOutOfBoundsException e) {
                return -13;
            }
            return n;
        }

        int taken(int s, int k) {
            if (!in(s, 0, 5) || !in(k, 0, 7)) return -1;
            if (shelf[s] == null) return -11;
            Class<?>[] all = {Kind.class, Warm.class, Waxen.class, Shared.class, Middle.class, Edge.class, Empty.class, Queen.class};
            return all[k].isInstance(shelf[s]) ? ((Kind) shelf[s]).kind : -12;
        }

        int count(int what) {
            switch (what) {
                case 0: return total(lived);
                case 1: return total(door);
                case 2: return passed;
                case 3: return tape.length();
                case 4: return done.size();
                case 5: return bodies.size();
                case 6: return ran.size();
                default: return -1;
            }
        }
    }

    private interface Warms {
        int number(int began);
        default int warms(int x) { return x + number(1); }
    }

    private interface Tells {
        int number(int began);
        int walls(int x);
        int pipes(int x);
        default int tells(int x) {
            number(2);
            return walls(x) - pipes(1);
        }
    }

    private static class Kind implements Warms, Tells {
        int kind, n;
        List<Integer> ran;
        void set(int kind, int n, List<Integer> ran) {
            this.kind = kind;
            this.n = n;
            this.ran = ran;
        }
        public int number(int began) {
            ran.add(began);
            return n;
        }
        public int walls(int x) { number(10); return warms(x) * 2; }
        public int pipes(int x) { return x ^ number(11); }
    }

    private static class Warm extends Kind {
        public int warms(int x) { number(20); return super.warms(x) + 3; }
    }

    private static class Waxen extends Kind {
        public int walls(int x) { number(30); return -super.walls(x); }
    }

    private static class Shared extends Waxen {
        public int pipes(int x) { number(40); return super.pipes(x) * 3; }
        public int walls(int x) { number(41); return super.walls(x + 1); }
    }

    private static class Middle extends Warm {
        public int pipes(int x) { number(50); return super.pipes(x) - warms(2); }
    }

    private static class Edge extends Shared {
        public int tells(int x) { number(60); return super.tells(x) ^ 5; }
    }

    private static class Empty extends Kind {
        public int warms(int x) { number(70); return super.warms(x) * 2; }
    }

    private static class Queen extends Middle {
        public int walls(int x) { number(80); return super.walls(x) + pipes(2); }
        public int tells(int x) { number(81); return super.tells(x) - 1; }
    }
}
