import java.util.Random;

/** Runs of calls by lots (always the same ones): the class and PlainDinner must answer alike. */
public final class AgreementTest {
    private static final int CALLS = 38;
    private final Random random;
    private StalemateDinner d;
    private PlainDinner plain;
    private String told;

    private AgreementTest(long seed) {
        random = new Random(seed);
    }

    public static void main(String[] args) {
        int runs = args.length > 0 ? Integer.parseInt(args[0]) : 60;
        int from = args.length > 1 ? Integer.parseInt(args[1]) : 0;
        for (int run = from; run < from + runs; run++) {
            new AgreementTest(run).run(run);
        }
        Check.end();
    }

    private void run(int run) {
        d = new StalemateDinner();
        plain = new PlainDinner();
        boolean gently = run % 2 == 0;
        if (run % 3 != 0) {
            for (int t = 0; t < 3; t++) {
                feedText(true);
                step(run, 3, 0, 0, 0, 0, 0);
            }
            int seats = random.nextInt(7);
            for (int p = 0; p < seats; p++) {
                step(run, 6, random.nextInt(60), random.nextInt(2) == 0 ? 1023 : random.nextInt(1024), random.nextInt(100), 0, 0);
            }
        }
        for (int i = 0; i < 500; i++) {
            if (random.nextInt(40) == 0) {
                feedText(random.nextInt(3) > 0);
                step(run, 3, 0, 0, 0, 0, 0);
            }
            int call = random.nextInt(CALLS);
            if (random.nextInt(30) == 0) {
                step(run, 28, random.nextInt(4), random.nextInt(21), 0, 0, 0);
            }
            call(run, call, gently);
            whole(run);
        }
    }

    /** A number: mostly one that can be, sometimes one beside it, or a far one. */
    private int number(int least, int most, boolean gently) {
        int roll = random.nextInt(gently ? 60 : 12);
        if (roll == 0) {
            return random.nextBoolean() ? least - 1 : most + 1;
        }
        if (roll == 1) {
            int[] far = {Integer.MIN_VALUE, Integer.MAX_VALUE, -1, 0, 1, 41, 1000, 65536, random.nextInt()};
            return far[random.nextInt(far.length)];
        }
        if (roll == 2) {
            return random.nextBoolean() ? least : most;
        }
        return least + random.nextInt(most - least + 1);
    }

    private void call(int run, int call, boolean gently) {
        int seats = Math.max(1, plain.count(0));
        int p = number(0, seats - 1, gently);
        int s = number(0, 3, gently);
        int c = random.nextInt(2);
        switch (call) {
            case 0 -> step(run, 0, number(0, 5, gently), 0, 0, 0, 0);
            case 1 -> step(run, 1, random.nextInt(3) == 0 ? number(0, 999, gently) : random.nextInt(12), 0, 0, 0, 0);
            case 4 -> step(run, 4, number(0, plain.count(3) - 1, gently), 0, 0, 0, 0);
            case 5 -> step(run, 5, number(0, 2, gently), p, 0, 0, 0);
            case 6 -> step(run, 6, number(0, 59, gently), number(0, 1023, gently), number(0, 99, gently), 0, 0);
            case 7 -> {
                int what = number(0, 4, gently);
                step(run, 7, p, what, number(0, what == 0 ? 1023 : what == 4 ? 1 : 99, gently), 0, 0);
            }
            case 8 -> step(run, 8, p, number(0, 9, gently), 0, 0, 0);
            case 9 -> step(run, 9, p, number(0, 9, gently), number(0, 1, gently), 0, 0);
            case 10 -> step(run, 10, number(0, 4, gently), 0, 0, 0, 0);
            case 13 -> step(run, 13, p, number(0, seats - 1, gently), 0, 0, 0);
            case 14 -> step(run, 14, number(0, 40, gently), c == 0 ? number(0, 2, gently) : number(10, 39, gently), 0, 0, 0);
            case 15 -> step(run, 15, number(0, 7, gently), 0, 0, 0, 0);
            case 16, 18, 19 -> step(run, call, c == 0 ? number(0, 40, gently) : random.nextInt(4), number(0, 1, gently), 0, 0, 0);
            case 17 -> step(run, 17, p, number(0, 1, gently), 0, 0, 0);
            case 21 -> step(run, 21, number(0, 1, gently), 0, 0, 0, 0);
            case 23 -> step(run, 23, s, p, number(0, 1, gently), 0, 0);
            case 25 -> step(run, 25, s, p, number(1, 2, gently), number(0, 1, gently), 0);
            case 28 -> step(run, 28, s, number(0, 20, gently), 0, 0, 0);
            case 29 -> step(run, 29, number(0, 99999, gently), number(0, 1, gently), 0, 0, 0);
            case 30 -> step(run, 30, number(0, 99999, gently), number(1, 40, gently), number(0, c == 0 ? 72 : 30, gently),
                    number(0, 1, gently), 0);
            case 33 -> step(run, 33, s, number(-1, 2, gently), number(0, c == 0 ? 40 : 12, gently), 0, 0);
            case 34 -> step(run, 34, s, number(0, c == 0 ? 39 : 5, gently), number(-3, c == 0 ? 1023 : 6, gently), 0, 0);
            case 35 -> step(run, 35, s, number(0, 8, gently), number(0, 3, gently), number(0, 8, gently), number(0, 8, gently));
            case 36 -> step(run, 36, s, number(0, 2, gently), number(0, 8, gently), number(0, 6, gently), 0);
            case 37 -> step(run, 37, number(0, 11, gently), number(0, 6, gently), 0, 0, 0);
            case 32 -> {
                if (random.nextInt(3) == 0) {
                    step(run, 32, 0, 0, 0, 0, 0);
                }
            }
            case 22, 26, 27 -> step(run, call, s, 0, 0, 0, 0);
            default -> step(run, call, call == 24 ? s : p, p, 0, 0, 0);
        }
    }

    private void step(int run, int call, int a, int b, int c, int e, int f) {
        told = "run " + run + ": call " + call + " of " + a + ", " + b + ", " + c + ", " + e + ", " + f;
        long want = 0;
        long got = 0;
        switch (call) {
            case 0 -> { want = plain.count(a); got = d.count(a); }
            case 1 -> { want = plain.clock(a); got = d.clock(a); }
            case 3 -> { want = plain.text(); got = d.text(); }
            case 4 -> { want = plain.force(a); got = d.force(a); }
            case 5 -> { want = plain.asks(a, b); got = d.asks(a, b); }
            case 6 -> { want = plain.guest(a, b, c); got = d.guest(a, b, c); }
            case 7 -> { want = plain.put(a, b, c); got = d.put(a, b, c); }
            case 8 -> { want = plain.told(a, b); got = d.told(a, b); }
            case 9 -> { want = plain.manners(a, b, c); got = d.manners(a, b, c); }
            case 10 -> { want = plain.dinner(a); got = d.dinner(a); }
            case 11 -> { want = plain.minute(); got = d.minute(); }
            case 12 -> { want = plain.act(a); got = d.act(a); }
            case 13 -> { want = plain.swap(a, b); got = d.swap(a, b); }
            case 14 -> { want = plain.run(a, b); got = d.run(a, b); }
            case 15 -> { want = plain.when(a); got = d.when(a); }
            case 16 -> { want = plain.poker(a, b); got = d.poker(a, b); }
            case 17 -> { want = plain.forgive(a, b); got = d.forgive(a, b); }
            case 18 -> { want = plain.alarm(a, b); got = d.alarm(a, b); }
            case 19 -> { want = plain.change(a, b); got = d.change(a, b); }
            case 20 -> { want = plain.bold(a); got = d.bold(a); }
            case 21 -> { want = plain.mean(a); got = d.mean(a); }
            case 22 -> { want = plain.judge(a); got = d.judge(a); }
            case 23 -> { want = plain.kinds(a, b, c); got = d.kinds(a, b, c); }
            case 24 -> { want = plain.turned(a, b); got = d.turned(a, b); }
            case 25 -> { want = plain.states(a, b, c, e); got = d.states(a, b, c, e); }
            case 26 -> { want = plain.feared(a); got = d.feared(a); }
            case 27 -> { want = plain.laws(a); got = d.laws(a); }
            case 28 -> { want = plain.film(a, b); got = d.film(a, b); }
            case 29 -> { want = plain.drawn(a, b); got = d.drawn(a, b); }
            case 30 -> { want = plain.odds(a, b, c, e); got = d.odds(a, b, c, e); }
            case 31 -> { want = plain.image(); got = d.image(); }
            case 32 -> { want = plain.back(); got = d.back(); }
            case 33 -> { want = plain.sheet(a, b, c); got = d.sheet(a, b, c); }
            case 34 -> { want = plain.cell(a, b, c); got = d.cell(a, b, c); }
            case 35 -> { want = plain.copy(a, b, c, e, f); got = d.copy(a, b, c, e, f); }
            case 36 -> { want = plain.guestsBy(a, b, c, e); got = d.guestsBy(a, b, c, e); }
            case 37 -> { want = plain.taken(a, b); got = d.taken(a, b); }
            default -> { }
        }
        Check.due(told, got, want);
    }

    /** All that is held is alike behind each call. */
    private void whole(int run) {
        for (int what = 0; what < 6; what++) {
            Check.due(told + ", then count(" + what + ")", d.count(what), plain.count(what));
        }
        for (int p = 0; p < plain.count(0); p++) {
            for (int what = 0; what < 10; what++) {
                Check.due(told + ", then told(" + p + ", " + what + ")", d.told(p, what), plain.told(p, what));
            }
        }
    }

    private void feedText(boolean good) {
        String text = "dares " + expression(3) + ";eats " + expression(2) + ";tells " + expression(2) + ";";
        if (!good) {
            int at = random.nextInt(text.length());
            String[] bits = {"(", ")", "-", " not ", ";", " ", "\n", "<", "=", "x", "12345", "A", "" + (char) 200, "or ", "((((((", "-----"};
            text = text.substring(0, at) + bits[random.nextInt(bits.length)] + text.substring(at + random.nextInt(2));
        }
        for (int i = 0; i < text.length(); i += 5) {
            int n = Math.min(5, text.length() - i);
            int[] b = {0, 0, 0, 0, 0};
            for (int k = 0; k < n; k++) {
                b[k] = text.charAt(i + k);
            }
            Check.due("feed of " + text, d.feed(n, b[0], b[1], b[2], b[3], b[4]), plain.feed(n, b));
        }
    }

    private String expression(int deep) {
        String[] names = {"shy", "bored", "ate", "minute", "wrongs", "more"};
        if (deep == 0 || random.nextInt(4) == 0) {
            return random.nextBoolean() ? names[random.nextInt(6)] : "" + random.nextInt(random.nextInt(8) == 0 ? 10000 : 60);
        }
        String l = expression(deep - 1);
        String r = expression(deep - 1);
        return switch (random.nextInt(11)) {
            case 0 -> l + " or " + r;
            case 1 -> l + " and " + r;
            case 2 -> "not " + l;
            case 3 -> l + "<" + r;
            case 4 -> l + "=" + r;
            case 5 -> l + "+" + r;
            case 6 -> l + "-" + r;
            case 7 -> l + " * " + r;
            case 8 -> "-" + l;
            default -> "(" + l + ")";
        };
    }
}
