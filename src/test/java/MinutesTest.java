/** Promises 13 to 17: minutes, truly and in thought. */
public final class MinutesTest {
    public static void main(String[] args) {
        twoOnTheSameActs();
        turnedRight();
        oneByOne();
        toldAhead();
        dangerAndBounds();
        lastMinute();
        act();
        swap();
        run();
        when();
        Check.end();
    }

    private static StalemateDinner two(int firstWrongs, int secondWrongs) {
        StalemateDinner d = new StalemateDinner();
        d.guest(0, firstWrongs, 0);
        d.guest(0, secondWrongs, 0);
        return d;
    }

    // Promise 13: each does an act that is wrong for both then; behind five minutes there is none
    private static void twoOnTheSameActs() {
        StalemateDinner d = two(0, 0);
        int[] wrong = {0b11, 0b1111, 0b111111, 0b11111111, 1023};
        for (int i = 0; i < 5; i++) {
            Check.due("minute " + i, d.minute(), 2);
            Check.due("count(1)", d.count(1), i + 1);
            for (int p = 0; p < 2; p++) {
                Check.due("wrong for " + p, d.told(p, 0), wrong[i]);
                Check.due("ate " + p, d.told(p, 3), i + 1);
                Check.due("bored " + p, d.told(p, 2), 0);
            }
        }
        for (int i = 0; i < 3; i++) {
            Check.due("minute of none", d.minute(), 0);
            Check.due("bored 0", d.told(0, 2), i + 1);
            Check.due("bored 1", d.told(1, 2), i + 1);
            Check.due("ate 0", d.told(0, 3), 5);
        }
        Check.due("nobody: minute()", new StalemateDinner().minute(), 0);
    }

    private static void turnedRight() {
        StalemateDinner d = two(0, 1);
        for (int i = 0; i < 20; i++) {
            // The first does act 0, which is right for the second then, who does it, which is right for the first then.
            Check.due("minute", d.minute(), 2);
            Check.due("wrong for the first", d.told(0, 0), 0);
            Check.due("wrong for the second", d.told(1, 0), 1);
        }
    }

    private static void oneByOne() {
        StalemateDinner d = new StalemateDinner();
        Check.law(d, "dares wrongs;eats 1;tells 1;");
        d.guest(0, 0b110, 2);
        d.guest(0, 0, 1);
        Check.due("the second does not dare now", d.told(1, 8), 1);
        Check.due("but the first makes one act wrong for the second", d.minute(), 2);
        Check.due("who does the next one", d.told(1, 0), 0b11);
        Check.due("which is turned for the first", d.told(0, 0), 0b101);
        // The other way round the one who is first is too early.
        d = new StalemateDinner();
        Check.law(d, "dares wrongs;eats 1;tells 1;");
        d.guest(0, 0, 1);
        d.guest(0, 0b110, 2);
        Check.due("the first does not dare", d.minute(), 1);
        Check.due("the first is bored", d.told(0, 2), 1);
        Check.due("the first was told act 0", d.told(0, 0), 1);
    }

    // What one eats, and whom one tells, by what was ahead of the act
    private static void toldAhead() {
        StalemateDinner d = new StalemateDinner();
        Check.law(d, "dares 99;eats ate+wrongs+1;tells ate;");
        d.guest(0, 0, 0);
        d.guest(50, 0, 0);
        Check.due("minute", d.minute(), 1);
        Check.due("ate by none before", d.told(0, 3), 1);
        Check.due("told oneself", d.told(1, 0), 0);
        d.minute();
        Check.due("ate by 1 + 1 + 1 more", d.told(0, 3), 4);
        Check.due("told the other one", d.told(1, 0), 0b10);
        // Told oneself: it is wrong, and not turned.
        Check.due("wrong for oneself", d.told(0, 0), 0b11);
        // A cook tells by MORE.
        d = new StalemateDinner();
        d.guest(41, 0, 0);
        d.guest(50, 0, 0);
        d.guest(50, 0, 0);
        Check.due("minute", d.minute(), 1);
        Check.due("two seats on", d.told(2, 0), 1);
        Check.due("one seat on: nothing", d.told(1, 0), 0);
        // A candle at minute 1 does not mind act 0, though it is wrong, and tells back.
        d = new StalemateDinner();
        d.guest(50, 0, 0);
        d.guest(36, 1, 0);
        d.guest(50, 0, 0);
        d.clock(1);
        d.minute();
        Check.due("one seat back", d.told(0, 0), 1);
        Check.due("not on", d.told(2, 0), 0);
        Check.due("half of 1", d.told(1, 3), 0);
    }

    private static void dangerAndBounds() {
        StalemateDinner d = new StalemateDinner();
        d.guest(0, 1023, 0);
        d.guest(50, 0, 0);
        d.put(0, 4, 1);
        d.put(0, 2, 9);
        Check.due("in danger one does act 0", d.minute(), 1);
        Check.due("it stays wrong", d.told(0, 0), 1023);
        Check.due("no more danger", d.told(0, 4), 0);
        Check.due("one ate", d.told(0, 3), 1);
        Check.due("and is as bored as before", d.told(0, 2), 9);
        Check.due("told the widow", d.told(1, 0), 1);
        Check.due("the widow is bored", d.told(1, 2), 1);
        d.put(1, 2, 98);
        d.minute();
        Check.due("bored 99", d.told(1, 2), 99);
        d.minute();
        Check.due("99 at most", d.told(1, 2), 99);
        d = new StalemateDinner();
        Check.law(d, "dares 99;eats 40;tells 0;");
        d.guest(20, 0, 0);
        d.put(0, 3, 50);
        d.minute();
        Check.due("ate 90", d.told(0, 3), 90);
        d.minute();
        Check.due("99 at most", d.told(0, 3), 99);
    }

    private static void lastMinute() {
        StalemateDinner d = two(0, 0);
        d.clock(998);
        Check.due("minute at 998", d.minute(), 2);
        Check.due("minute at 999", d.minute(), -3);
        Check.due("nothing changed", d.told(0, 0), 3);
        Check.due("still 999", d.count(1), 999);
        // In thought it may pass 999.
        Check.law(d, "dares 99*(minute<1001);eats 1;tells 0;");
        d.put(0, 1, 50);
        d.put(1, 1, 50);
        Check.due("acts at 999 and 1000 alone", d.run(3, 1), 4);
        Check.due("stuck behind two minutes", d.when(6), 2);
        Check.due("still 999", d.count(1), 999);
    }

    // Promise 14
    private static void act() {
        StalemateDinner d = two(0b11, 0b100);
        Check.due("act: none such", d.act(2), -5);
        Check.due("act: none such", d.act(-1), -5);
        Check.due("act(0)", d.act(0), 2);
        Check.due("wrong for oneself", d.told(0, 0), 0b111);
        Check.due("turned for the other one", d.told(1, 0), 0);
        Check.due("ate", d.told(0, 3), 1);
        Check.due("the minute stays", d.count(1), 0);
        Check.due("nobody else did", d.told(1, 3), 0);
        d.put(0, 0, 1023);
        Check.due("there is none", d.act(0), -3);
        Check.due("not bored by it", d.told(0, 2), 0);
        d.put(0, 4, 1);
        Check.due("in danger", d.act(0), 0);
        Check.due("no more", d.told(0, 4), 0);
        d.clock(999);
        Check.due("also at 999", d.act(1), 1);
    }

    // Promise 15
    private static void swap() {
        StalemateDinner d = two(5, 80);
        Check.due("swap(0, 1)", d.swap(0, 1), 80);
        Check.due("the first", d.told(0, 0), 80);
        Check.due("the second", d.told(1, 0), 5);
        Check.due("swap(1, 0)", d.swap(1, 0), 80);
        Check.due("one and the same", d.swap(1, 1), -5);
        Check.due("none such", d.swap(0, 2), -5);
        Check.due("none such", d.swap(2, 0), -5);
        Check.due("none such", d.swap(-1, 0), -5);
        Check.due("none such", d.swap(0, -1), -5);
        Check.due("as it was", d.told(0, 0), 5);
    }

    // Promise 16
    private static void run() {
        StalemateDinner d = two(0, 0);
        int[][] due = {
            {0, 0, 0}, {0, 1, 0}, {0, 2, 0}, {0, 10, 0}, {0, 21, 0}, {0, 30, 0},
            {1, 10, 0b11}, {2, 11, 0b1111}, {4, 0, 0}, {4, 1, 8}, {5, 0, 3}, {5, 1, 10}, {6, 1, 10},
            {40, 2, 10}, {40, 10, 1023}, {40, 20, 5}, {40, 31, 35}, {3, 30, 0}};
        for (int[] row : due) {
            Check.due("run(" + row[0] + ", " + row[1] + ")", d.run(row[0], row[1]), row[2]);
        }
        int[][] bad = {{-1, 0}, {41, 0}, {0, -1}, {0, 3}, {0, 9}, {0, 12}, {0, 19}, {0, 22}, {0, 32}, {0, 40}, {0, 50}};
        for (int[] row : bad) {
            Check.due("run(" + row[0] + ", " + row[1] + ")", d.run(row[0], row[1]), -2);
        }
        Check.due("in thought alone", d.count(1) + d.told(0, 0) + d.told(0, 3), 0);
        Check.due("nobody: run(0, 10)", new StalemateDinner().run(0, 10), -2);
    }

    // Promise 17
    private static void when() {
        StalemateDinner d = two(0, 0);
        Check.due("when(0)", d.when(0), 5);
        Check.due("when(1)", d.when(1), 5);
        Check.due("when(6)", d.when(6), 5);
        Check.due("when(7)", d.when(7), 0);
        for (int what : new int[] {-1, 2, 5, 8}) {
            Check.due("when(" + what + ")", d.when(what), -5);
        }
        d = two(0, 1);
        Check.due("never stuck", d.when(0), -1);
        Check.due("never all", d.when(6), -1);
        d = new StalemateDinner();
        d.guest(50, 0, 0);
        Check.due("stuck now", d.when(0), 0);
        Check.due("never nobody", d.when(7), -1);
        d.put(0, 4, 1);
        Check.due("stuck when out of danger", d.when(0), 1);
        Check.due("nobody now", d.when(7), 0);
        d = new StalemateDinner();
        Check.law(d, "dares 60-minute;eats 1;tells 1;");
        d.guest(20, 1023, 1);
        Check.due("behind the last that counts", d.when(0), 60);
        Check.due("all", d.when(6), 60);
        d.put(0, 1, 0);
        Check.due("not by then", d.when(0), -1);
        d.put(0, 1, 1);
        Check.law(d, "dares 61-minute;eats 1;tells 1;");
        Check.due("a minute too late", d.when(0), -1);
        Check.law(d, "dares minute;eats 1;tells 1;");
        d.put(0, 1, 3);
        Check.due("nobody, at last", d.when(7), 3);
        Check.due("all, at first", d.when(6), 0);
        Check.due("nobody there: all", new StalemateDinner().when(6), 0);
        Check.due("nobody there: none", new StalemateDinner().when(7), 0);
        Check.due("nobody there: guest 0", new StalemateDinner().when(0), -5);
    }
}
