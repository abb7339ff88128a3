import java.math.BigInteger;

/** The edges of dinners by lots and of the image: of the terms, and promises 31 to 34. */
public final class EdgeLotsTest extends Edges {
    public static void main(String[] args) {
        of("terms", "DINNERS by a SEED (0 .. 99999), in thought:", EdgeLotsTest::seeds);
        of("terms", "twelve MINUTES, ahead of each two LOTS:", EdgeLotsTest::twelve);
        of("terms", "for who is numbered LOT modulo 6, if there is one,", EdgeLotsTest::who);
        of("terms", "ACT (the other LOT modulo 10) is WRONG, if it isn't, or not, if it is.", EdgeLotsTest::whichAct);
        of("terms", "LOTS: the first is (SEED and 1) times 48271 modulo 2147483647, each further one the last times 48271 modulo 2147483647.",
                EdgeLotsTest::wrappingLots);
        of("terms", "AN IMAGE keeps WRONG, SHY, BORED, ATE, DANGER of all, how many GUESTS there are, MINUTE, THE LAW.",
                EdgeLotsTest::imageKeeps);

        of("31", "DINNERS by a SEED: how many ACTS are done (what 0), who are STUCK then (1; bits).", EdgeLotsTest::drawn);
        of("31", "BAD.", EdgeLotsTest::drawnBad);
        of("32", "By how many of so many (1 .. 40) seeds,", EdgeLotsTest::oddsSeeds);
        of("32", "SEED and each 1 more (they may pass 99999),", EdgeLotsTest::oddsPast);
        of("32", "least (0 .. 72) or more ACTS are done:", EdgeLotsTest::oddsLeast);
        of("32", "part 0 above, 1 below the line, in lowest terms.", EdgeLotsTest::oddsTerms);
        of("32", "NO: none such.", EdgeLotsTest::oddsNo);
        of("33", "AN IMAGE is kept: how many GUESTS.", EdgeLotsTest::image);
        of("34", "All that it keeps is as in THE IMAGE, GUESTS that came since are none: how many there are.", EdgeLotsTest::back);
        of("34", "STATE: there is none.", EdgeLotsTest::backState);
        Check.end();
    }

    /** The 24 lots of a seed, counted without bounds. */
    private static int[] lots(int seed) {
        BigInteger modulus = BigInteger.valueOf(2147483647L);
        BigInteger lot = BigInteger.valueOf(seed).add(BigInteger.ONE);
        int[] lots = new int[24];
        for (int i = 0; i < 24; i++) {
            lot = lot.multiply(BigInteger.valueOf(48271)).mod(modulus);
            lots[i] = lot.intValueExact();
        }
        return lots;
    }

    /** Guests of these kinds (10 times KIND, and MORE), for whom all is wrong, and who tell nobody else. */
    private static StalemateDinner wrongOnes(int seats, int kindMore) {
        StalemateDinner d = with("dares 99;eats 1;tells 0;");
        for (int p = 0; p < seats; p++) {
            d.guest(kindMore, 1023, 0);
        }
        return d;
    }

    private static void seeds() {
        int[][] edges = {{0, 48271}, {1, 96542}, {44487, 2147480248}, {44488, 44872}, {99998, 532084435}, {99999, 532132706}};
        for (int[] row : edges) {
            due("the first lot of " + row[0], lots(row[0])[0], row[1]);
            int acts = 0;
            for (int i = 0; i < 24; i += 2) {
                acts += lots(row[0])[i] % 6 < 4 ? 1 : 0;
            }
            asked(() -> wrongOnes(4, 0), acts, "drawn", row[0], 0);
        }
        for (int seed : beside(0, 99999)) {
            refused(() -> wrongOnes(4, 0), BAD, "drawn", seed, 0);
            refused(() -> wrongOnes(4, 0), NO, "odds", seed, 1, 0, 0);
        }
        StalemateDinner d = wrongOnes(4, 0);
        d.clock(999);
        due("in thought, past the last minute", d.drawn(99999, 0) + d.count(1), 999 + wrongOnes(4, 0).drawn(99999, 0));
    }

    private static void twelve() {
        // Cooks who mind nothing do an act in each of the minutes.
        for (int seats = 0; seats <= 6; seats++) {
            StalemateDinner d = wrongOnes(seats, 40);
            due(d, 12 * seats, "drawn", 0, 0);
            due(d, 12 * seats, "drawn", 99999, 0);
            due(d, 0, "drawn", 99999, 1);
        }
        // Who does an act only in the twelfth minute, or only in the one behind.
        due(with("dares minute=11;eats 1;tells 0;", one(20, 1023, 1), one(20, 1023, 1)), 2 + lotsOn(2, 11), "drawn", 0, 0);
        due(with("dares minute=12;eats 1;tells 0;", one(20, 1023, 1), one(20, 1023, 1)), lotsOn(2, 12), "drawn", 0, 0);
        due(with("dares minute=12;eats 1;tells 0;", one(20, 1023, 1), one(20, 1023, 1)), 0, "drawn", 0, 1);
        // Lots come ahead of the minute: of the last two, too.
        for (int p = 0; p < 6; p++) {
            for (int seed = 0; seed < 20; seed++) {
                int[] lots = lots(seed);
                int acts = 0;
                for (int i = 0; i < 24; i += 2) {
                    acts += lots[i] % 6 == p ? 1 : 0;
                }
                int[][] guests = new int[6][];
                for (int q = 0; q < 6; q++) {
                    guests[q] = one(q == p ? 0 : 50, 1023, 0);
                }
                due(with("dares 99;eats 1;tells 0;", guests), acts, "drawn", seed, 0);
            }
        }
    }

    /** How many of the first so many pairs of lots by SEED 0 fall on seats below so many. */
    private static int lotsOn(int seats, int minutes) {
        int on = 0;
        for (int i = 0; i < 2 * minutes; i += 2) {
            on += lots(0)[i] % 6 < seats ? 1 : 0;
        }
        return on;
    }

    private static void who() {
        for (int seats = 0; seats <= 6; seats++) {
            for (int seed : new int[] {0, 1, 7, 99998, 99999}) {
                int acts = 0;
                for (int i = 0; i < 24; i += 2) {
                    acts += lots(seed)[i] % 6 < seats ? 1 : 0;
                }
                StalemateDinner d = wrongOnes(seats, 0);
                due(d, acts, "drawn", seed, 0);
                due(d, (1 << seats) - 1, "drawn", seed, 1);
            }
        }
    }

    private static void whichAct() {
        // Bred ones who mind ACT m, too: a lot that makes it right lets them do nothing.
        for (int m = 0; m < 10; m++) {
            for (int seed : new int[] {0, 1, 2, 99999}) {
                int acts = 0;
                for (int i = 0; i < 24; i += 2) {
                    acts += lots(seed)[i + 1] % 10 != m ? 1 : 0;
                }
                due(wrongOnes(6, 10 + m), acts, "drawn", seed, 0);
            }
        }
        // It is WRONG, if it isn't: of one who does not dare but by one wrong alone.
        for (int seed = 0; seed < 10; seed++) {
            int[] wrong = new int[6];
            int acts = 0;
            int[] lots = lots(seed);
            for (int i = 0; i < 24; i += 2) {
                wrong[lots[i] % 6] ^= 1 << lots[i + 1] % 10;
                for (int p = 0; p < 6; p++) {
                    if (Integer.bitCount(wrong[p]) == 1) {
                        acts++;
                        wrong[p] |= (wrong[p] & 1) == 0 ? 1 : 2;
                    }
                }
            }
            int stuck = 0;
            for (int p = 0; p < 6; p++) {
                stuck |= Integer.bitCount(wrong[p]) == 1 ? 0 : 1 << p;
            }
            int[] g = one(0, 0, 1);
            StalemateDinner d = with("dares wrongs=1;eats 1;tells 0;", g, g, g, g, g, g);
            due(d, acts, "drawn", seed, 0);
            due(d, stuck, "drawn", seed, 1);
        }
    }

    private static void wrappingLots() {
        int[] bySeed0 = {48271, 182605794, 1291394886, 1914720637, 2078669041, 407355683, 1105902161, 854716505};
        for (int i = 0; i < bySeed0.length; i++) {
            due("lot " + i + " by SEED 0", lots(0)[i], bySeed0[i]);
        }
        for (int seed : new int[] {0, 1, 2, 3, 4, 44487, 44488, 50000, 88975, 88976, 99998, 99999}) {
            for (int seats = 1; seats <= 5; seats++) {
                int acts = 0;
                for (int i = 0; i < 24; i += 2) {
                    acts += lots(seed)[i] % 6 < seats && lots(seed)[i + 1] % 10 != 9 ? 1 : 0;
                }
                due(wrongOnes(seats, 19), acts, "drawn", seed, 0);
            }
        }
    }

    private static void imageKeeps() {
        StalemateDinner d = laid();
        due(d, 3, "image");
        int[] most = {1023, 99, 99, 99, 1};
        int[][] was = {{6, 10, 7, 0, 0}, {1023, 70, 4, 8, 1}, {1022, 40, 0, 0, 0}};
        for (int p = 0; p < 3; p++) {
            for (int what = 0; what < 5; what++) {
                d.put(p, what, was[p][what] == most[what] ? 0 : most[what]);
            }
        }
        d.clock(999);
        d.force(0);
        d.guest(50, 0, 0);
        d.guest(50, 0, 0);
        d.guest(50, 0, 0);
        due(d, 3, "back");
        for (int p = 0; p < 3; p++) {
            for (int what = 0; what < 5; what++) {
                due(d, was[p][what], "told", p, what);
            }
        }
        due(d, 3, "count", 0);
        due(d, 5, "count", 1);
        due(d, 2, "count", 4);
        due(d, -5, "told", 3, 0);
        // Not texts, the tape, sheets.
        d = laid();
        d.text();
        Check.text(d, "dares 1;eats 1;tells 1;");
        Check.feed(d, "dares");
        d.sheet(0, 2, 4);
        d.sheet(3, 1, 2);
        due(d, 2, "back");
        due(d, 4, "count", 3);
        due(d, 5, "count", 5);
        due(d, 1, "cell", 0, 3, 1);
        due(d, -12, "cell", 0, 4, 1);
        due(d, 1, "cell", 3, 1, 1);
    }

    private static void drawn() {
        asked(Edges::bare, 0, "drawn", 0, 0);
        asked(Edges::bare, 0, "drawn", 0, 1);
        asked(Edges::bare, 0, "drawn", 99999, 1);
        asked(() -> wrongOnes(6, 40), 72, "drawn", 99999, 0);
        asked(() -> wrongOnes(6, 40), 0, "drawn", 99999, 1);
        asked(() -> wrongOnes(6, 50), 0, "drawn", 99999, 0);
        asked(() -> wrongOnes(6, 50), 63, "drawn", 0, 1);
        asked(() -> {
            StalemateDinner d = wrongOnes(6, 50);
            d.put(5, 4, 1);
            return d;
        }, 1, "drawn", 0, 0);
    }

    private static void drawnBad() {
        for (Scene scene : new Scene[] {Edges::laid, Edges::bare, Edges::late}) {
            for (int seed : beside(0, 99999)) {
                refused(scene, BAD, "drawn", seed, 0);
                refused(scene, BAD, "drawn", seed, 1);
            }
            for (int what : beside(0, 1)) {
                refused(scene, BAD, "drawn", 0, what);
                refused(scene, BAD, "drawn", 99999, what);
            }
        }
    }

    private static void fraction(StalemateDinner d, int seed, int seeds, int least, long above, long below) {
        due(d, above, "odds", seed, seeds, least, 0);
        due(d, below, "odds", seed, seeds, least, 1);
    }

    private static int enough(int seed, int seeds, int least) {
        int enough = 0;
        for (int i = 0; i < seeds; i++) {
            enough += wrongOnesActs(seed + i) >= least ? 1 : 0;
        }
        return enough;
    }

    private static int wrongOnesActs(int seed) {
        int acts = 0;
        for (int i = 0; i < 24; i += 2) {
            acts += lots(seed)[i] % 6 < 3 ? 1 : 0;
        }
        return acts;
    }

    private static void oddsSeeds() {
        for (int seeds : new int[] {1, 2, 39, 40}) {
            for (int least = 3; least <= 9; least++) {
                int enough = enough(11, seeds, least);
                int divisor = BigInteger.valueOf(enough).gcd(BigInteger.valueOf(seeds)).intValue();
                fraction(wrongOnes(3, 0), 11, seeds, least, enough / divisor, seeds / divisor);
            }
        }
        for (int seeds : beside(1, 40)) {
            refused(Edges::laid, NO, "odds", 0, seeds, 0, 0);
            refused(Edges::laid, NO, "odds", 99999, seeds, 72, 1);
        }
    }

    private static void oddsPast() {
        for (int[] row : new int[][] {{99999, 1}, {99999, 2}, {99999, 40}, {99998, 40}, {99960, 40}, {99961, 40}}) {
            for (int least = 4; least <= 8; least++) {
                int enough = enough(row[0], row[1], least);
                int divisor = BigInteger.valueOf(enough).gcd(BigInteger.valueOf(row[1])).intValue();
                fraction(wrongOnes(3, 0), row[0], row[1], least, enough / divisor, row[1] / divisor);
            }
        }
        for (int seed : beside(0, 99999)) {
            refused(Edges::laid, NO, "odds", seed, 1, 0, 0);
        }
    }

    private static void oddsLeast() {
        fraction(wrongOnes(6, 40), 0, 40, 72, 1, 1);
        fraction(wrongOnes(6, 40), 99999, 40, 71, 1, 1);
        fraction(wrongOnes(5, 40), 0, 40, 60, 1, 1);
        fraction(wrongOnes(5, 40), 0, 40, 61, 0, 1);
        fraction(wrongOnes(5, 40), 0, 40, 72, 0, 1);
        fraction(bare(), 0, 1, 0, 1, 1);
        fraction(bare(), 0, 40, 0, 1, 1);
        fraction(bare(), 0, 40, 1, 0, 1);
        for (int least : beside(0, 72)) {
            refused(Edges::laid, NO, "odds", 0, 40, least, 0);
            refused(() -> wrongOnes(6, 40), NO, "odds", 0, 1, least, 1);
        }
    }

    private static void oddsTerms() {
        fraction(wrongOnes(3, 0), 0, 7, 0, 1, 1);
        fraction(wrongOnes(3, 0), 0, 7, 13, 0, 1);
        // A fraction by each of forty lines.
        for (int seeds = 1; seeds <= 40; seeds++) {
            int enough = enough(0, seeds, 6);
            int divisor = BigInteger.valueOf(enough).gcd(BigInteger.valueOf(seeds)).intValue();
            fraction(wrongOnes(3, 0), 0, seeds, 6, enough / divisor, seeds / divisor);
        }
        for (int part : beside(0, 1)) {
            refused(Edges::laid, NO, "odds", 0, 1, 0, part);
            refused(Edges::laid, NO, "odds", 99999, 40, 72, part);
        }
    }

    private static void oddsNo() {
        int[][] none = {{-1, 1, 0, 0}, {100000, 1, 0, 0}, {0, 0, 0, 0}, {0, 41, 0, 0}, {0, 1, -1, 0}, {0, 1, 73, 0}, {0, 1, 0, -1},
            {0, 1, 0, 2}, {MIN, MIN, MIN, MIN}, {MAX, MAX, MAX, MAX}, {0, MAX, 0, 0}, {MAX, 40, 0, 0}, {0, MIN, 0, 1}};
        for (int[] row : none) {
            refused(Edges::laid, NO, "odds", row);
            refused(Edges::bare, NO, "odds", row);
            refused(Edges::late, NO, "odds", row);
        }
        asked(Edges::laid, 1, "odds", 0, 1, 0, 0);
        asked(Edges::laid, 1, "odds", 99999, 40, 0, 1);
        asked(Edges::late, 0, "odds", 99999, 40, 72, 0);
    }

    private static void image() {
        StalemateDinner d = bare();
        due(d, 0, "image");
        for (int p = 0; p < 6; p++) {
            d.guest(0, p, p);
            due(d, p + 1, "image");
        }
        due(d, 6, "image");
        // A later one is the one that is kept; it changes nothing else.
        d.put(0, 1, 50);
        due(d, 6, "image");
        d.put(0, 1, 60);
        due(d, 6, "back");
        due(d, 50, "told", 0, 1);
        d = laid();
        due(d, 3, "image");
        int[] laid = {3, 5, 0, 3, 2, 7};
        for (int what = 0; what < 6; what++) {
            due(d, laid[what], "count", what);
        }
        due(late(), 3, "image");
    }

    private static void back() {
        StalemateDinner d = full();
        due(d, 6, "count", 0);
        due(d, 2, "back");
        due(d, 2, "count", 0);
        due(d, 30, "count", 1);
        due(d, 1, "count", 4);
        for (int p = 2; p < 6; p++) {
            due(d, -5, "told", p, 0);
        }
        int[][] is = {{5, 10, 7, 0, 0, 1, 3}, {1023, 70, 0, 8, 1, 2, 4}};
        for (int p = 0; p < 2; p++) {
            for (int what = 0; what < 7; what++) {
                due(d, is[p][what], "told", p, what);
            }
        }
        // As often as one likes, and with whoever comes then.
        for (int i = 0; i < 3; i++) {
            due(d, 2, "guest", 59, 1023, 99);
            due(d, 3, "guest", 0, 0, 0);
            due(d, 2, "back");
        }
        due(d, 2, "guest", 41, 3, 4);
        int[] anew = {3, 4, 0, 0, 0, 4, 1};
        for (int what = 0; what < 7; what++) {
            due(d, anew[what], "told", 2, what);
        }
        // An image of all six, and one of nobody.
        d = full();
        due(d, 6, "image");
        due(d, 6, "back");
        due(d, FULL, "guest", 0, 0, 0);
        d = bare();
        due(d, 0, "image");
        for (int p = 0; p < 6; p++) {
            d.guest(0, 0, 0);
        }
        due(d, 0, "back");
        due(d, 0, "count", 0);
        due(d, 0, "guest", 0, 0, 0);
        // Back from the last minute.
        d = late();
        due(d, STATE, "minute");
        due(d, 2, "back");
        due(d, 2, "minute");
        due(d, 31, "count", 1);
    }

    private static void backState() {
        refused(Edges::bare, STATE, "back");
        refused(Edges::unkept, STATE, "back");
        due(laid(), 2, "back");
    }
}
