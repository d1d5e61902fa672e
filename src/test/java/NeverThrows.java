import java.lang.management.ManagementFactory;
import java.lang.reflect.InvocationTargetException;
import java.lang.reflect.Method;
import java.lang.reflect.Modifier;
import java.util.Arrays;
import java.util.Comparator;
import java.util.Random;

/** Any call with any numbers in any state: none throws, wrong ones change nothing, and none makes new objects. */
public final class NeverThrows {
    private static final int[] ENDS = {Integer.MIN_VALUE, Integer.MIN_VALUE + 1, -2000000000, -101, -100, -2, -1, 0, 1, 2, 4, 5, 6, 7, 9, 10,
        15, 16, 24, 30, 31, 32, 33, 40, 50, 59, 60, 61, 99, 100, 101, 255, 256, 1500, 1515, 1516, 1615, 65535, 65536,
        Integer.MAX_VALUE - 1, Integer.MAX_VALUE};
    private static final String LETTERS = "dtoab019(((!-+*/%<=>&|?;))";

    private static int wrong = 0;

    public static void main(String[] args) throws IllegalAccessException {
        Method[] face = Arrays.stream(SixWalls.class.getDeclaredMethods())
            .filter(m -> Modifier.isPublic(m.getModifiers()))
            .sorted(Comparator.comparing(Method::getName))
            .toArray(Method[]::new);
        if (face.length != 40 - 1) say("the face has " + face.length + " methods");
        for (int run = 0; run < 300 && wrong < 10; run++) oneRun(run, face);
        makesNothing();
        System.out.println(wrong == 0 ? "nothing was thrown" : wrong + " calls were wrong");
        if (wrong != 0) System.exit(1);
    }

    private static void say(String what) {
        wrong++;
        System.out.println(what);
    }

    private static void oneRun(int run, Method[] face) throws IllegalAccessException {
        Random draw = new Random(run);
        SixWalls x = new SixWalls();
        for (int call = 0; call < 512; call++) {
            Method m = face[draw.nextInt(face.length)];
            Object[] numbers = new Object[m.getParameterCount()];
            for (int i = 0; i < numbers.length; i++) {
                int n = run % 3 == 0 ? ENDS[draw.nextInt(ENDS.length)] : draw.nextInt(run % 3 == 1 ? 7 : 40) - 1;
                if (m.getName().equals("feed") && draw.nextInt(4) > 0) n = LETTERS.charAt(draw.nextInt(LETTERS.length()));
                if (m.getParameterTypes()[i] == long.class) numbers[i] = (long) n * (draw.nextBoolean() ? 1 : 4000000007L);
                else numbers[i] = n;
            }
            try {
                m.invoke(x, numbers);
            } catch (InvocationTargetException e) {
                say("run " + run + ": " + m.getName() + Arrays.toString(numbers) + " threw " + e.getCause());
            }
        }
    }

    /** The room is one for all calls of a run. */
    private static void makesNothing() {
        com.sun.management.ThreadMXBean threads = (com.sun.management.ThreadMXBean) ManagementFactory.getThreadMXBean();
        long me = Thread.currentThread().getId();
        SixWalls x = new SixWalls();
        callAll(x);
        threads.getThreadAllocatedBytes(me);
        long before = threads.getThreadAllocatedBytes(me);
        for (int n = 0; n < 10; n++) callAll(x);
        long made = threads.getThreadAllocatedBytes(me) - before;
        if (made > 2000) say("ten times all calls made " + made + " bytes");
    }

    private static void callAll(SixWalls x) {
        x.wall(506); x.mend(5, 0, x.of(5, 0) ^ 1); x.of(0, 15);
        x.feed('d'); x.feed('/'); x.feed('5'); x.law(); x.feed('('); x.law();
        x.warmth(-1, 30); x.cold(20, 5); x.still(); x.gave(3, 5); x.leastFire(3, 9930); x.days(1); x.led(3);
        x.rounds(-1); x.way(15); x.doors(0); x.doors(1); x.opened(1); x.heard(15, 99); x.whose(30, 5);
        x.colours(0); x.colours(1); x.colours(2); x.paint(3);
        x.empty(5); x.takes(5, 1); x.where(3); x.years(3, 20); x.image(); x.back(); x.undo(); x.redo();
        x.body(7); x.act(0, 3, 5); x.trace(2); x.keep(1, 0); x.row(0, 0, 60); x.row(2, 3, 60);
        x.put(0, 3, 5); x.element(0, 3); x.shift(0, 0, 0, 3, 20); x.taken(1, 4); x.fires(0, 0, 16);
        for (int i = 0; i < 8; i++) x.count(i);
    }
}
