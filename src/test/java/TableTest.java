/** Promises 1 to 3 and 8 to 12: the table and the guests. */
public final class TableTest {
    public static void main(String[] args) {
        newObject();
        countAndClock();
        guest();
        putAndTold();
        kindsMind();
        kindsEat();
        kindsTell();
        mannersRefuses();
        dinner();
        fullTable();
        Check.end();
    }

    // Promise 1
    private static void newObject() {
        StalemateDinner d = new StalemateDinner();
        int[] counts = {0, 0, 0, 1, 0, 0};
        for (int what = 0; what < counts.length; what++) {
            Check.due("new: count(" + what + ")", d.count(what), counts[what]);
        }
        Check.due("new: no image", d.back(), StalemateDinner.STATE);
        Check.due("new: nobody", d.told(0, 0), -5);
        for (int s = 0; s < 4; s++) {
            Check.due("new: sheets are missing", d.cell(s, 0, 0), -11);
        }
    }

    // Promises 2 and 3
    private static void countAndClock() {
        StalemateDinner d = new StalemateDinner();
        d.guest(0, 1023, 0);
        d.guest(50, 0, 0);
        d.guest(0, 0, 0);
        Check.due("count(0)", d.count(0), 3);
        Check.due("count(2)", d.count(2), 2);
        Check.due("count(-1)", d.count(-1), -2);
        Check.due("count(6)", d.count(6), -2);
        Check.due("clock(-1)", d.clock(-1), -2);
        Check.due("clock(1000)", d.clock(1000), -2);
        Check.due("clock(999)", d.clock(999), 0);
        Check.due("clock(7)", d.clock(7), 999);
        Check.due("count(1)", d.count(1), 7);
        Check.due("clock(0)", d.clock(0), 7);
        Check.feed(d, "dares 1;eats 1;tells 1;");
        Check.due("count(5)", d.count(5), 23);
        d.text();
        Check.due("count(5) behind a text", d.count(5), 0);
        Check.due("count(3)", d.count(3), 2);
        Check.due("count(4)", d.count(4), 0);
        d.force(1);
        Check.due("count(4) of a law", d.count(4), 1);
    }

    // Promise 8
    private static void guest() {
        StalemateDinner d = new StalemateDinner();
        Check.due("kindMore below 0", d.guest(-1, 0, 0), -2);
        Check.due("kindMore 60", d.guest(60, 0, 0), -2);
        Check.due("wrongs below 0", d.guest(0, -1, 0), -2);
        Check.due("wrongs 1024", d.guest(0, 1024, 0), -2);
        Check.due("shyness below 0", d.guest(0, 0, -1), -2);
        Check.due("shyness 100", d.guest(0, 0, 100), -2);
        Check.due("nobody came", d.count(0), 0);
        for (int p = 0; p < 6; p++) {
            Check.due("guest " + p, d.guest(10 * p + 9 - p, p == 0 ? 1023 : p, p == 1 ? 99 : p), p);
            Check.due("kind", d.told(p, 5), p);
            Check.due("more", d.told(p, 6), 9 - p);
            Check.due("wrong", d.told(p, 0), p == 0 ? 1023 : p);
            Check.due("shy", d.told(p, 1), p == 1 ? 99 : p);
            Check.due("bored", d.told(p, 2), 0);
            Check.due("ate", d.told(p, 3), 0);
            Check.due("danger", d.told(p, 4), 0);
        }
        Check.due("a seventh", d.guest(0, 0, 0), -4);
        Check.due("bad ahead of full", d.guest(60, 0, 0), -2);
        Check.due("six are there", d.count(0), 6);
        // Whoever comes anew is not bored, ate nothing, and is in no danger, whoever sat there before.
        d = new StalemateDinner();
        d.image();
        d.guest(0, 0, 0);
        d.put(0, 2, 5);
        d.put(0, 3, 6);
        d.put(0, 4, 1);
        d.back();
        d.guest(33, 4, 5);
        for (int what = 2; what <= 4; what++) {
            Check.due("anew: told(0, " + what + ")", d.told(0, what), 0);
        }
    }

    // Promises 9 and 10
    private static void putAndTold() {
        StalemateDinner d = new StalemateDinner();
        d.guest(25, 6, 7);
        int[] most = {1023, 99, 99, 99, 1};
        int[] was = {6, 7, 0, 0, 0};
        for (int what = 0; what < 5; what++) {
            Check.due("put(0, " + what + ", too much)", d.put(0, what, most[what] + 1), -7);
            Check.due("put(0, " + what + ", below 0)", d.put(0, what, -1), -7);
            Check.due("put(0, " + what + ", most)", d.put(0, what, most[what]), was[what]);
            Check.due("told(0, " + what + ")", d.told(0, what), most[what]);
            Check.due("put(0, " + what + ", 0)", d.put(0, what, 0), most[what]);
            Check.due("told(0, " + what + ")", d.told(0, what), 0);
        }
        Check.due("put: what", d.put(0, 5, 0), -7);
        Check.due("put: what", d.put(0, -1, 0), -7);
        Check.due("put: none such", d.put(1, 9, 0), -5);
        Check.due("put: none such", d.put(-1, 0, 0), -5);
        Check.due("told: kind", d.told(0, 5), 2);
        Check.due("told: more", d.told(0, 6), 5);
        Check.due("told: what", d.told(0, 10), -7);
        Check.due("told: what", d.told(0, -1), -7);
        Check.due("told: none such", d.told(1, 10), -5);
        Check.due("told: none such", d.told(-1, 0), -5);

        d = new StalemateDinner();
        d.guest(0, 7, 0);
        d.guest(0, 1023, 0);
        d.guest(50, 0, 0);
        Check.due("the first act that isn't wrong", d.told(0, 7), 3);
        Check.due("not stuck", d.told(0, 8), 0);
        Check.due("none is right", d.told(1, 7), -1);
        Check.due("stuck", d.told(1, 8), 1);
        Check.due("a widow", d.told(2, 7), -1);
        d.put(1, 4, 1);
        Check.due("in danger act 0", d.told(1, 7), 0);
        Check.due("in danger not stuck", d.told(1, 8), 0);
        d.put(0, 4, 1);
        Check.due("in danger act 0, though another one is right", d.told(0, 7), 0);
        d.put(0, 4, 0);
        d.put(0, 0, 511);
        Check.due("act 9", d.told(0, 7), 9);
        for (int p = 0; p < 3; p++) {
            Check.due("told by " + p, d.told(p, 9), (p + 1) % 3);
        }
    }

    /** Which acts are right for one, as bits. */
    private static int right(StalemateDinner d, int p) {
        int bits = 0;
        for (int a = 0; a < 10; a++) {
            int answer = d.manners(p, a, 0);
            Check.due("manners is 0 or 1", answer == 0 || answer == 1 ? 1 : 0, 1);
            bits |= answer << a;
        }
        return bits;
    }

    // Promise 11, and the kinds: WRONG 0b11 (acts 0, 1), MORE 4
    private static void kindsMind() {
        int all = 1023;
        int even = 0b0101010101;
        int odd = 0b1010101010;
        // By kind: what is right for one who dares, and for one who doesn't.
        int[] daring = {all & ~3, all & ~3 & ~16, all, 0, 0, 0};
        int[] timid = {0, 0, all & ~3, 0, 0, 0};
        for (int kind = 0; kind < 6; kind++) {
            for (int minute = 0; minute < 8; minute++) {
                StalemateDinner d = new StalemateDinner();
                Check.law(d, "dares 50;eats 1;tells 1;");
                d.guest(10 * kind + 4, 3, 50);
                d.clock(minute);
                int wantDaring = daring[kind];
                int wantTimid = timid[kind];
                if (kind == 3) {
                    wantDaring = minute % 2 == 0 ? odd | even & ~1 & ~16 : even | odd & ~2;
                    wantTimid = minute % 2 == 0 ? odd : even;
                }
                if (kind == 4) {
                    wantDaring = all;
                    wantTimid = minute < 4 ? all & ~3 : all;
                }
                Check.due("kind " + kind + " dares at " + minute, right(d, 0), wantDaring);
                d.put(0, 1, 51);
                Check.due("kind " + kind + " does not dare at " + minute, right(d, 0), wantTimid);
                d.put(0, 4, 1);
                Check.due("kind " + kind + " in danger at " + minute, right(d, 0), wantTimid);
            }
        }
    }

    // Promise 11, what 1
    private static void kindsEat() {
        StalemateDinner d = new StalemateDinner();
        Check.law(d, "dares 0;eats 7;tells 1;");
        for (int kind = 0; kind < 6; kind++) {
            d.guest(10 * kind + 4, 1023, 50);
        }
        for (int a = 0; a < 10; a++) {
            int[] want = {7, 3, 7 + a, 3, 7 + a, 0};
            for (int kind = 0; kind < 6; kind++) {
                Check.due("kind " + kind + " eats by " + a, d.manners(kind, a, 1), want[kind]);
            }
        }
        Check.law(d, "dares 0;eats 99;tells 1;");
        Check.due("a hungry one eats more than 99", d.manners(2, 9, 1), 108);
        Check.law(d, "dares 0;eats 0;tells 1;");
        Check.due("half of nothing", d.manners(1, 9, 1), 0);
        Check.due("a hungry one by the number alone", d.manners(2, 9, 1), 9);
    }

    private static void kindsTell() {
        StalemateDinner d = new StalemateDinner();
        for (int kind = 0; kind < 6; kind++) {
            d.guest(10 * kind + 4, 0, 0);
        }
        Check.law(d, "dares 0;eats 0;tells 2;");
        int[] want = {2, 3, 4, 1, 4, 1};
        for (int p = 0; p < 6; p++) {
            Check.due("two seats on from " + p, d.told(p, 9), want[p]);
        }
        Check.law(d, "dares 0;eats 0;tells 0-99;");
        // -99 is 3 seats on of six; the candle's 99 is 3 on; the cook's -95 is 1 on.
        int[] far = {3, 4, 5, 0, 5, 2};
        for (int p = 0; p < 6; p++) {
            Check.due("99 seats back from " + p, d.told(p, 9), far[p]);
        }
        Check.law(d, "dares 0;eats 0;tells 6;");
        Check.due("oneself", d.told(0, 9), 0);
    }

    private static void mannersRefuses() {
        StalemateDinner d = new StalemateDinner();
        d.guest(0, 0, 0);
        Check.due("manners: none such", d.manners(1, 10, 2), -5);
        Check.due("manners: none such", d.manners(-1, 0, 0), -5);
        Check.due("manners: no such act", d.manners(0, 10, 2), -6);
        Check.due("manners: no such act", d.manners(0, -1, 0), -6);
        Check.due("manners: what", d.manners(0, 9, 2), -7);
        Check.due("manners: what", d.manners(0, 0, -1), -7);
    }

    // Promise 12
    private static void dinner() {
        StalemateDinner d = new StalemateDinner();
        int[] empty = {0, 0, 0, 1023, 0};
        for (int what = 0; what < 5; what++) {
            Check.due("nobody: dinner(" + what + ")", d.dinner(what), empty[what]);
        }
        d.guest(0, 1000, 0);
        d.guest(0, 1011, 0);
        Check.due("right for anybody", d.dinner(2), 1023 & ~(1000 & 1011));
        Check.due("right for all", d.dinner(3), 1023 & ~(1000 | 1011));
        d.guest(50, 0, 0);
        d.guest(50, 0, 0);
        d.put(2, 4, 1);
        d.put(0, 4, 1);
        Check.due("who are stuck", d.dinner(0), 0b1000);
        Check.due("who are in danger", d.dinner(1), 0b0101);
        Check.due("right for anybody, still", d.dinner(2), 1023 & ~(1000 & 1011));
        Check.due("right for all: none", d.dinner(3), 0);
        d.put(0, 3, 99);
        d.put(1, 3, 99);
        d.put(3, 3, 3);
        Check.due("all ate", d.dinner(4), 201);
        Check.due("dinner(5)", d.dinner(5), -2);
        Check.due("dinner(-1)", d.dinner(-1), -2);
    }

    // Promises 2 and 12 with six, and with who came since an image gone again
    private static void fullTable() {
        StalemateDinner d = new StalemateDinner();
        d.guest(0, 0b1100, 0);
        d.guest(0, 0b1010, 0);
        d.image();
        for (int p = 2; p < 6; p++) {
            d.guest(50, 0, 0);
            d.put(p, 3, 10);
        }
        d.put(5, 4, 1);
        int[] six = {0b011100, 0b100000, 1023 & ~0b1000, 0, 40};
        for (int what = 0; what < 5; what++) {
            Check.due("six: dinner(" + what + ")", d.dinner(what), six[what]);
        }
        Check.due("six: count(2)", d.count(2), 3);
        Check.due("six: told(5, 9)", d.told(5, 9), 0);
        d.back();
        int[] two = {0, 0, 1023 & ~0b1000, 1023 & ~0b1110, 0};
        for (int what = 0; what < 5; what++) {
            Check.due("two: dinner(" + what + ")", d.dinner(what), two[what]);
        }
        Check.due("two: count(2)", d.count(2), 0);
        Check.due("two: told(1, 9)", d.told(1, 9), 0);
        Check.due("two: mean(1)", d.mean(1), 1);
    }
}
