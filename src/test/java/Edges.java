import java.lang.reflect.InvocationTargetException;
import java.lang.reflect.Method;
import java.util.HashMap;
import java.util.List;
import java.util.Map;

/**
 * What the tests of the document's edges share. Each test is made by of(..), with the place and the words of the sentence
 * that it tests (EdgeQuotesTest looks whether all of the document is quoted so), and asks for the last value that is
 * still allowed and for the first one that is not.
 */
abstract class Edges {
    static final int MIN = Integer.MIN_VALUE;
    static final int MAX = Integer.MAX_VALUE;
    static final int BAD = -2;
    static final int STATE = -3;
    static final int FULL = -4;
    static final long NO = -4611686018427387904L;
    private static final long THREW = Long.MIN_VALUE;
    private static final Map<String, Method> METHODS = new HashMap<>();
    private static String sentence = "";

    static {
        for (Method m : StalemateDinner.class.getDeclaredMethods()) {
            METHODS.put(m.getName(), m);
        }
    }

    interface Test {
        void run();
    }

    /** Makes the same object anew each time. */
    interface Scene {
        StalemateDinner make();
    }

    static void of(String place, String quoted, Test test) {
        sentence = place + ", \"" + quoted + "\"";
        test.run();
    }

    static void due(String told, long got, long want) {
        Check.due(sentence + ": " + told, got, want);
    }

    static long call(StalemateDinner d, String name, int... args) {
        Object[] boxed = new Object[args.length];
        for (int i = 0; i < args.length; i++) {
            boxed[i] = args[i];
        }
        try {
            return ((Number) METHODS.get(name).invoke(d, boxed)).longValue();
        } catch (InvocationTargetException e) {
            System.out.println(call(name, args) + " threw " + e.getCause());
            return THREW;
        } catch (IllegalAccessException e) {
            throw new IllegalStateException(e);
        }
    }

    private static String call(String name, int[] args) {
        StringBuilder s = new StringBuilder(name).append('(');
        for (int i = 0; i < args.length; i++) {
            s.append(i == 0 ? "" : ", ").append(args[i]);
        }
        return s.append(')').toString();
    }

    static void due(StalemateDinner d, long want, String name, int... args) {
        due(call(name, args), call(d, name, args), want);
    }

    /** What is asked answers so, and changes nothing. */
    static void asked(Scene scene, long want, String name, int... args) {
        StalemateDinner d = scene.make();
        due(d, want, name, args);
        List<Long> with = Whole.of(d);
        due(call(name, args) + " changes nothing", with.equals(Whole.of(scene.make())) ? 1 : 0, 1);
    }

    /** What is refused answers so, and changes nothing. */
    static void refused(Scene scene, long want, String name, int... args) {
        asked(scene, want, name, args);
    }

    /** A call of one number: least and most are allowed, one less, one more and the farthest are refused. */
    static void refusedBeside(Scene scene, long want, int least, int most, String name) {
        for (int v : beside(least, most)) {
            refused(scene, want, name, v);
        }
    }

    static int[] beside(int least, int most) {
        return new int[] {least - 1, most + 1, MIN, MAX};
    }

    // ---- scenes

    static StalemateDinner bare() {
        return new StalemateDinner();
    }

    /**
     * Three guests, the first two of them in an image of another minute and law; two texts of one's own; sheets of nine
     * bytes, shorts, ints, and a missing one; the beginning of a text on the tape.
     */
    static StalemateDinner laid() {
        StalemateDinner d = unkept();
        d.image();
        d.guest(0, 1022, 40);
        d.put(0, 0, 6);
        d.put(1, 2, 4);
        d.clock(5);
        d.force(2);
        return d;
    }

    /** Two guests, and all the rest, but no image. */
    static StalemateDinner unkept() {
        StalemateDinner d = new StalemateDinner();
        Check.text(d, "dares 60;eats 2;tells 1;");
        Check.text(d, "dares 50;eats 1;tells 2;");
        d.guest(13, 5, 10);
        d.guest(24, 1023, 70);
        d.put(0, 2, 7);
        d.put(1, 3, 8);
        d.put(1, 4, 1);
        d.clock(30);
        d.force(1);
        for (int sort = 0; sort < 3; sort++) {
            int n = 1 + 9 * sort;
            Check.sheet(d, sort, sort, n, n + 1, n + 2, n + 3, n + 4, n + 5, n + 6, n + 7, n + 8);
        }
        Check.feed(d, "dares 7");
        return d;
    }

    /** As it was laid, but six guests. */
    static StalemateDinner full() {
        StalemateDinner d = laid();
        d.guest(30, 0, 0);
        d.guest(42, 1000, 90);
        d.guest(50, 0, 0);
        return d;
    }

    /** As it was laid, but all six texts are there. */
    static StalemateDinner read() {
        StalemateDinner d = laid();
        // The tape is emptied by a fault.
        d.text();
        for (int t = 3; t < 6; t++) {
            Check.text(d, "dares " + t + ";eats " + t + ";tells " + t + ";");
        }
        Check.feed(d, "dares 7");
        return d;
    }

    /** As it was laid, but in the last minute. */
    static StalemateDinner late() {
        StalemateDinner d = laid();
        d.clock(999);
        return d;
    }

    /** As it was laid, but with a whole text of n bytes on the tape. */
    static StalemateDinner taped(int n) {
        StalemateDinner d = laid();
        d.text();
        Check.feed(d, textOf(n));
        return d;
    }

    /** A text of n bytes without a fault: what it lacks are blanks. */
    static String textOf(int n) {
        String text = "dares 41;eats 7;tells -3;";
        return " ".repeat(n - text.length()) + text;
    }

    /** As it was laid, but the first sheet tells twenty, the second one twenty-one numbers. */
    static StalemateDinner tales() {
        StalemateDinner d = laid();
        d.sheet(0, 0, 20);
        d.sheet(1, 0, 21);
        return d;
    }

    /** Guests of these kinds (10 times KIND, and MORE), for whom these acts are wrong, so shy, by a law. */
    static StalemateDinner with(String law, int[]... guests) {
        StalemateDinner d = new StalemateDinner();
        Check.law(d, law);
        for (int[] g : guests) {
            d.guest(g[0], g[1], g[2]);
        }
        return d;
    }

    static int[] one(int kindMore, int wrongs, int shyness) {
        return new int[] {kindMore, wrongs, shyness};
    }
}
