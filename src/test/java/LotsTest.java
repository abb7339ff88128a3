/** Promises 31 to 34: dinners by lots, and the image. */
public final class LotsTest {
    public static void main(String[] args) {
        firstLots();
        drawn();
        odds();
        image();
        Check.end();
    }

    /** Guests for each of whom all is wrong, and who tell nobody: an act for each lot that falls on one of them. */
    private static StalemateDinner wrongOnes(int seats) {
        StalemateDinner d = new StalemateDinner();
        Check.law(d, "dares 99;eats 1;tells 0;");
        for (int p = 0; p < seats; p++) {
            d.guest(0, 1023, 0);
        }
        return d;
    }

    private static int lotsOnThem(int seed, int seats) {
        java.math.BigInteger modulus = java.math.BigInteger.valueOf(2147483647L);
        java.math.BigInteger factor = java.math.BigInteger.valueOf(48271L);
        java.math.BigInteger lot = java.math.BigInteger.valueOf(seed + 1L);
        int on = 0;
        for (int i = 0; i < 12; i++) {
            lot = lot.multiply(factor).mod(modulus);
            if (lot.mod(java.math.BigInteger.valueOf(6)).intValue() < seats) {
                on++;
            }
            lot = lot.multiply(factor).mod(modulus);
        }
        return on;
    }

    // The lots by seed 0: who is numbered first, which act second, minute by minute
    private static final int[] BY_SEED_0 = {
        48271, 182605794, 1291394886, 1914720637, 2078669041, 407355683, 1105902161, 854716505,
        564586691, 1596680831, 192302371, 1203428207, 1250328747, 1738531149, 1271135913, 1098894339,
        1882556969, 2136927794, 1559527823, 2075782095, 638022372, 914937185, 1931656580, 1402304087};

    // One who does not dare until an act is wrong, and widows, who are always stuck
    private static void firstLots() {
        StalemateDinner d = new StalemateDinner();
        Check.law(d, "dares wrongs;eats 1;tells 0;");
        d.guest(0, 0, 1);
        d.guest(50, 0, 0);
        int wrong = 0;
        int acts = 0;
        for (int i = 0; i < 24; i += 2) {
            if (BY_SEED_0[i] % 6 == 0) {
                wrong ^= 1 << BY_SEED_0[i + 1] % 10;
            }
            if (wrong != 0 && wrong != 1023) {
                wrong |= Integer.lowestOneBit(~wrong);
                acts++;
            }
        }
        Check.due("acts by seed 0", d.drawn(0, 0), acts);
        Check.due("stuck by seed 0", d.drawn(0, 1), (wrong == 0 || wrong == 1023 ? 1 : 0) + 2);
        Check.due("some of twelve", acts > 0 && acts < 12 ? 1 : 0, 1);
    }

    // Promise 31
    private static void drawn() {
        for (int seats = 0; seats <= 6; seats++) {
            StalemateDinner d = wrongOnes(seats);
            for (int seed : new int[] {0, 1, 2, 3, 77, 99998, 99999}) {
                Check.due(seats + " seats: drawn(" + seed + ", 0)", d.drawn(seed, 0), lotsOnThem(seed, seats));
                Check.due(seats + " seats: drawn(" + seed + ", 1)", d.drawn(seed, 1), (1 << seats) - 1);
            }
            Check.due("nothing changed", d.count(1) + d.dinner(4), 0);
        }
        StalemateDinner d = wrongOnes(6);
        Check.due("drawn: seed", d.drawn(-1, 0), -2);
        Check.due("drawn: seed", d.drawn(100000, 0), -2);
        Check.due("drawn: what", d.drawn(0, 2), -2);
        Check.due("drawn: what", d.drawn(0, -1), -2);
    }

    // Promise 32
    private static void odds() {
        for (int[] row : new int[][] {{0, 1, 3}, {5, 40, 4}, {99999, 40, 5}, {99999, 12, 6}, {17, 30, 7}, {3, 9, 8}}) {
            StalemateDinner d = wrongOnes(4);
            int enough = 0;
            for (int i = 0; i < row[1]; i++) {
                enough += lotsOnThem(row[0] + i, 4) >= row[2] ? 1 : 0;
            }
            int divisor = Math.max(1, java.math.BigInteger.valueOf(enough).gcd(java.math.BigInteger.valueOf(row[1])).intValue());
            String call = "odds(" + row[0] + ", " + row[1] + ", " + row[2] + ", ";
            Check.due(call + "0)", d.odds(row[0], row[1], row[2], 0), enough / divisor);
            Check.due(call + "1)", d.odds(row[0], row[1], row[2], 1), row[1] / divisor);
        }
        StalemateDinner d = wrongOnes(6);
        Check.due("twelve acts by each, above", d.odds(0, 40, 12, 0), 1);
        Check.due("twelve acts by each, below", d.odds(0, 40, 12, 1), 1);
        Check.due("thirteen by none, above", d.odds(0, 40, 13, 0), 0);
        Check.due("thirteen by none, below", d.odds(0, 40, 13, 1), 1);
        Check.due("none or more", d.odds(0, 7, 0, 0), 1);
        Check.due("72 or more", d.odds(0, 7, 72, 0), 0);
        int[][] none = {{-1, 1, 0, 0}, {100000, 1, 0, 0}, {0, 0, 0, 0}, {0, 41, 0, 0}, {0, 1, -1, 0}, {0, 1, 73, 0},
            {0, 1, 0, -1}, {0, 1, 0, 2}};
        for (int[] row : none) {
            Check.due("odds: none such", d.odds(row[0], row[1], row[2], row[3]), StalemateDinner.NO);
        }
        Check.due("nothing changed", d.count(1) + d.dinner(4), 0);
    }

    // Promises 33 and 34
    private static void image() {
        StalemateDinner d = new StalemateDinner();
        Check.due("back: there is none", d.back(), -3);
        d.guest(11, 22, 33);
        d.guest(44, 55, 66);
        d.put(1, 2, 7);
        d.put(1, 3, 8);
        d.put(1, 4, 1);
        d.clock(9);
        Check.law(d, "dares 1;eats 2;tells 3;");
        Check.due("image()", d.image(), 2);
        for (int round = 0; round < 2; round++) {
            d.put(0, 0, 1);
            d.put(0, 1, 2);
            d.put(1, 2, 3);
            d.put(1, 3, 4);
            d.put(1, 4, 0);
            d.clock(500);
            d.force(0);
            d.guest(0, 0, 0);
            Check.text(d, "dares 5;eats 6;tells 7;");
            Check.feed(d, "dares");
            d.sheet(0, 0, 5);
            Check.due("back()", d.back(), 2);
            Check.due("guests", d.count(0), 2);
            Check.due("minute", d.count(1), 9);
            Check.due("law", d.count(4), 1);
            int[][] due = {{22, 33, 0, 0, 0, 1, 1}, {55, 66, 7, 8, 1, 4, 4}};
            for (int p = 0; p < 2; p++) {
                for (int what = 0; what < 7; what++) {
                    Check.due("told(" + p + ", " + what + ")", d.told(p, what), due[p][what]);
                }
            }
            Check.due("who came since is none", d.told(2, 0), -5);
            Check.due("texts stay", d.count(3), 3 + round);
            Check.due("the tape stays", d.count(5), 5);
            Check.due("sheets stay", d.cell(0, 4, 1), 1);
            d.text();
        }
        d.guest(50, 3, 4);
        Check.due("a new image", d.image(), 3);
        d.guest(20, 0, 0);
        d.minute();
        Check.due("back to it", d.back(), 3);
        Check.due("its third guest", d.told(2, 5) * 100 + d.told(2, 0) * 10 + d.told(2, 1), 534);
        Check.due("not bored", d.told(2, 2), 0);
        d = new StalemateDinner();
        Check.due("image of nobody", d.image(), 0);
        d.guest(0, 0, 0);
        Check.due("back to nobody", d.back(), 0);
        Check.due("nobody there", d.count(0), 0);
    }
}
