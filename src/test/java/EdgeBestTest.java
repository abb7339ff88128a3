/** The edges of promises 18 to 23: what is best. */
public final class EdgeBestTest extends Edges {
    public static void main(String[] args) {
        of("18", "The ACT such that, were it not WRONG for anybody now, fewest would be STUCK behind", EdgeBestTest::pokerActs);
        of("18", "n MINUTES (0 .. 40),", EdgeBestTest::pokerMinutes);
        of("18", "if fewer than so, of like ones the first (what 0; -1: none), how many (1; as so).", EdgeBestTest::pokerLikeOnes);
        of("18", "BAD.", () -> bad("poker"));
        of("19", "Of all sets of ACTS that are WRONG for one such that, were they not, one isn't STUCK now,", EdgeBestTest::forgiveSets);
        of("19", "that of fewest (none, too), of like ones the least as bits (what 0; bits; -1: none), of how many (1; -1).",
                EdgeBestTest::forgiveFewest);
        of("19", "-5: none such;", EdgeBestTest::forgiveNoneSuch);
        of("19", "-7: what.", EdgeBestTest::forgiveRefuses);
        of("20", "Who, being in DANGER now, who isn't, would make ATE of all, together, most behind", EdgeBestTest::alarmWho);
        of("20", "n MINUTES (0 .. 40),", EdgeBestTest::alarmMinutes);
        of("20", "if more than so, of like ones the first (what 0; -1: nobody), how much (1; as so).", EdgeBestTest::alarmLikeOnes);
        of("20", "BAD.", () -> bad("alarm"));
        of("21", "10 times one, and another one of a greater number, such that, had they each other's WRONG ACTS now, "
                + "fewest would be STUCK behind", EdgeBestTest::changeWho);
        of("21", "n MINUTES (0 .. 40),", EdgeBestTest::changeMinutes);
        of("21", "if fewer than so, of like ones the least such number (what 0; -1: none), how many (1; as so).",
                EdgeBestTest::changeLikeOnes);
        of("21", "BAD.", () -> bad("change"));
        of("22", "The greatest SHY (0 .. 99) such that, were one so SHY now, one isn't STUCK;", EdgeBestTest::bold);
        of("22", "-1: by none.", EdgeBestTest::boldByNone);
        of("22", "-5: none such.", () -> EdgeMinutesTest.noneSuch("bold"));
        of("23", "BORED of all, together, by how many GUESTS there are: part 0 above, 1 below the line, in lowest terms.",
                EdgeBestTest::mean);
        of("23", "NO: part, there are none.", EdgeBestTest::meanOfNone);
        Check.end();
    }

    private static void best(Scene scene, int which, int how, String name, int n) {
        asked(scene, which, name, n, 0);
        asked(scene, how, name, n, 1);
    }

    private static void bad(String name) {
        for (Scene scene : new Scene[] {Edges::laid, Edges::bare, Edges::full}) {
            for (int n : beside(0, 40)) {
                refused(scene, BAD, name, n, 0);
                refused(scene, BAD, name, n, 1);
            }
            for (int what : beside(0, 1)) {
                refused(scene, BAD, name, 0, what);
                refused(scene, BAD, name, 40, what);
            }
        }
    }

    private static Scene scene(String law, int[]... guests) {
        return () -> with(law, guests);
    }

    /** A hungry one who eats as much as the ACT's number, and dares what was eaten. */
    private static Scene daresBehindActs(int from) {
        return scene("dares ate;eats 0;tells 0;", one(20, 1023, from));
    }

    private static void pokerActs() {
        for (int a = 1; a <= 9; a++) {
            best(daresBehindActs(a), a, 0, "poker", 1);
        }
        best(daresBehindActs(10), -1, 1, "poker", 1);
        best(scene("dares 99;eats 1;tells 1;", one(0, 1023, 0)), 0, 0, "poker", 0);
        best(scene("dares 99;eats 1;tells 1;", one(10, 1023, 0)), 1, 0, "poker", 0);
        // For anybody: the last one, too.
        best(scene("dares 99;eats 1;tells 0;", one(50, 0, 0), one(50, 0, 0), one(50, 0, 0), one(50, 0, 0), one(50, 0, 0), one(0, 1023, 0)),
                0, 5, "poker", 0);
        // An ACT that is right is none that would change it.
        best(scene("dares 99;eats 1;tells 0;", one(19, 511, 0)), 0, 0, "poker", 0);
    }

    private static void pokerMinutes() {
        best(daresBehindActs(5), 0, 0, "poker", 0);
        best(daresBehindActs(5), 5, 0, "poker", 1);
        best(daresBehindActs(5), 5, 0, "poker", 39);
        best(daresBehindActs(5), 5, 0, "poker", 40);
        // Not stuck in one minute alone.
        for (int minute = 39; minute <= 40; minute++) {
            Scene scene = scene("dares 99*(minute=" + minute + ");eats 1;tells 0;", one(20, 1023, 1));
            best(scene, -1, 0, "poker", minute);
            best(scene, -1, 1, "poker", 79 - minute);
        }
    }

    private static void pokerLikeOnes() {
        best(Edges::bare, -1, 0, "poker", 0);
        best(Edges::bare, -1, 0, "poker", 40);
        // As many as so is none; one fewer is one.
        best(scene("dares 99;eats 1;tells 0;", one(50, 0, 0)), -1, 1, "poker", 0);
        best(scene("dares 99;eats 1;tells 0;", one(0, 0, 0)), -1, 0, "poker", 0);
        best(scene("dares 99;eats 1;tells 0;", one(0, 1023, 0), one(50, 0, 0)), 0, 1, "poker", 0);
        // Of like ones the first: ACT 0 is no good for the first bred one, ACT 1 for the second.
        best(scene("dares 99;eats 1;tells 0;", one(10, 1023, 0), one(11, 1023, 0)), 2, 0, "poker", 0);
        best(scene("dares 99;eats 1;tells 0;", one(10, 1023, 0), one(11, 1023, 0), one(12, 1023, 0), one(13, 1023, 0), one(14, 1023, 0),
                one(15, 1023, 0)), 6, 0, "poker", 0);
        best(scene("dares 99;eats 1;tells 0;", one(10, 1023, 0), one(10, 1023, 0)), 1, 0, "poker", 0);
    }

    private static void forgiveSets() {
        String law = "dares 99*(wrongs=0);eats 1;tells 0;";
        for (int a = 0; a < 10; a++) {
            // Only the one that is WRONG can be forgiven.
            int wrong = 1 << a;
            asked(scene(law, one(0, wrong, 1)), wrong, "forgive", 0, 0);
            asked(scene(law, one(0, wrong, 1)), 1, "forgive", 0, 1);
            asked(scene("dares 99;eats 1;tells 0;", one(10 + a, 1023, 0)), a == 0 ? 2 : 1, "forgive", 0, 0);
            asked(scene("dares 99;eats 1;tells 0;", one(10 + a, 1023 - wrong, 0)), a == 0 ? 2 : 1, "forgive", 0, 0);
        }
        asked(scene(law, one(0, 1023, 1)), 1023, "forgive", 0, 0);
        asked(scene(law, one(0, 1023, 1)), 10, "forgive", 0, 1);
        asked(scene(law, one(0, 512 | 1, 1)), 512 | 1, "forgive", 0, 0);
        asked(scene(law, one(0, 512 | 1, 1)), 2, "forgive", 0, 1);
    }

    private static void forgiveFewest() {
        // None, too: who isn't stuck, who is in danger.
        asked(scene("dares 99;eats 1;tells 0;", one(0, 511, 0)), 0, "forgive", 0, 0);
        asked(scene("dares 99;eats 1;tells 0;", one(0, 511, 0)), 0, "forgive", 0, 1);
        Scene danger = () -> {
            StalemateDinner d = with("dares 0;eats 1;tells 0;", one(50, 1023, 99));
            d.put(0, 4, 1);
            return d;
        };
        asked(danger, 0, "forgive", 0, 0);
        asked(danger, 0, "forgive", 0, 1);
        // Of like ones the least: also of three.
        String law = "dares 99*(wrongs<8);eats 1;tells 0;";
        asked(scene(law, one(0, 1023, 1)), 7, "forgive", 0, 0);
        asked(scene(law, one(0, 1023, 1)), 3, "forgive", 0, 1);
        asked(scene(law, one(0, 1023 - 2, 1)), 5, "forgive", 0, 0);
        asked(scene(law, one(0, 1023 - 2, 1)), 2, "forgive", 0, 1);
        asked(scene(law, one(0, 255, 1)), 1, "forgive", 0, 0);
        asked(scene(law, one(0, 127, 1)), 0, "forgive", 0, 0);
        // By none: a widow, one too shy, both with and without wrongs; ahead of that comes the refusal.
        for (int[] g : new int[][] {one(50, 1023, 0), one(50, 0, 0)}) {
            asked(scene("dares 99;eats 1;tells 0;", g), -1, "forgive", 0, 0);
            asked(scene("dares 99;eats 1;tells 0;", g), -1, "forgive", 0, 1);
        }
        for (int[] g : new int[][] {one(0, 1023, 51), one(0, 0, 51)}) {
            asked(scene("dares 50;eats 1;tells 0;", g), -1, "forgive", 0, 0);
            asked(scene("dares 50;eats 1;tells 0;", g), -1, "forgive", 0, 1);
        }
        asked(scene("dares 50;eats 1;tells 0;", one(0, 1023, 50)), 1, "forgive", 0, 0);
    }

    private static void forgiveNoneSuch() {
        EdgeMinutesTest.noneSuch("forgive", 0);
        EdgeMinutesTest.noneSuch("forgive", 2);
    }

    private static void forgiveRefuses() {
        for (int what : beside(0, 1)) {
            refused(Edges::laid, -7, "forgive", 0, what);
            refused(Edges::full, -7, "forgive", 5, what);
        }
    }

    private static void alarmWho() {
        // One of six who eats by being in danger, the others are widows.
        for (int p = 0; p < 6; p++) {
            int[][] guests = new int[6][];
            for (int q = 0; q < 6; q++) {
                guests[q] = q == p ? one(0, 1023, 0) : one(50, 0, 0);
            }
            best(scene("dares 99;eats 3;tells 0;", guests), p, 3, "alarm", 1);
        }
        // Who is in danger already is nobody who could be.
        best(() -> {
            StalemateDinner d = with("dares 99;eats 3;tells 0;", one(0, 1023, 0), one(0, 1023, 0));
            d.put(0, 4, 1);
            return d;
        }, 1, 6, "alarm", 1);
        best(() -> {
            StalemateDinner d = with("dares 99;eats 3;tells 0;", one(0, 1023, 0), one(0, 1023, 0));
            d.put(0, 4, 1);
            d.put(1, 4, 1);
            return d;
        }, -1, 6, "alarm", 1);
    }

    private static void alarmMinutes() {
        best(scene("dares 99;eats 3;tells 0;", one(0, 1023, 0)), -1, 0, "alarm", 0);
        best(scene("dares 99;eats 3;tells 0;", one(0, 1023, 0)), 0, 3, "alarm", 1);
        best(scene("dares 99;eats 3;tells 0;", one(0, 1023, 0)), 0, 3, "alarm", 40);
        // One who dares in the 40th minute alone: ACT 0 is done in it, and in danger ahead of it.
        best(scene("dares 99*(minute=39);eats 3;tells 0;", one(0, 0, 1)), 0, 3, "alarm", 39);
        best(scene("dares 99*(minute=39);eats 3;tells 0;", one(0, 0, 1)), 0, 6, "alarm", 40);
        best(scene("dares 99*(minute=40);eats 3;tells 0;", one(0, 0, 1)), 0, 3, "alarm", 40);
    }

    private static void alarmLikeOnes() {
        best(Edges::bare, -1, 0, "alarm", 0);
        best(Edges::bare, -1, 0, "alarm", 40);
        best(scene("dares 99;eats 3;tells 0;", one(50, 0, 0), one(0, 1023, 0), one(0, 1023, 0)), 1, 3, "alarm", 1);
        best(scene("dares 99;eats 3;tells 0;", one(10, 1023, 0), one(0, 1023, 0), one(0, 1023, 0)), 1, 3, "alarm", 1);
        // As much as so is nobody: a widow eats nothing, who acts anyway eats no more, who ate 99 can eat no more.
        best(scene("dares 99;eats 3;tells 0;", one(50, 0, 0)), -1, 0, "alarm", 1);
        best(scene("dares 99;eats 3;tells 0;", one(0, 0, 0)), -1, 3, "alarm", 1);
        for (int ate = 98; ate <= 99; ate++) {
            int v = ate;
            best(() -> {
                StalemateDinner d = with("dares 99;eats 3;tells 0;", one(0, 1023, 0));
                d.put(0, 3, v);
                return d;
            }, v == 98 ? 0 : -1, 99, "alarm", 1);
        }
        best(() -> {
            StalemateDinner d = with("dares 99;eats 3;tells 0;", one(0, 1023, 0), one(0, 1023, 0), one(0, 1023, 0), one(0, 1023, 0),
                    one(0, 1023, 0), one(0, 1023, 0));
            for (int p = 0; p < 6; p++) {
                d.put(p, 3, 99);
            }
            return d;
        }, -1, 594, "alarm", 40);
        // Less than so is not more: by ACT 0 a hungry one eats less than by ACT 9.
        best(scene("dares 0;eats 1;tells 0;", one(20, 511, 99)), -1, 10, "alarm", 1);
    }

    private static void changeWho() {
        // One guest for whom all is wrong and a widow for whom nothing is, at each two places of six.
        for (int a = 0; a < 6; a++) {
            for (int b = 0; b < 6; b++) {
                if (a != b) {
                    int[][] guests = new int[6][];
                    for (int p = 0; p < 6; p++) {
                        guests[p] = p == a ? one(0, 1023, 0) : p == b ? one(50, 0, 0) : one(50, 1023, 0);
                    }
                    best(scene("dares 99;eats 1;tells 0;", guests), 10 * Math.min(a, b) + Math.max(a, b), 5, "change", 0);
                }
            }
        }
        best(scene("dares 99;eats 1;tells 0;", one(0, 1023, 0)), -1, 1, "change", 0);
        best(scene("dares 99;eats 1;tells 0;", one(0, 1023, 0), one(50, 1023, 0)), -1, 2, "change", 0);
    }

    private static void changeMinutes() {
        // With 10 - k acts right one is stuck behind 10 - k minutes.
        String law = "dares 99;eats 1;tells 0;";
        best(scene(law, one(0, 1023, 0), one(50, 0, 0)), 1, 1, "change", 0);
        best(scene(law, one(0, 1023, 0), one(50, 0, 0)), 1, 1, "change", 9);
        best(scene(law, one(0, 1023, 0), one(50, 0, 0)), -1, 2, "change", 10);
        best(scene(law, one(0, 1023, 0), one(50, 0, 0)), -1, 2, "change", 40);
        // Who dares by what is wrong, in the very last minute.
        best(scene("dares 99*(minute=40)*(wrongs=1);eats 1;tells 0;", one(0, 0, 1), one(50, 1, 0)), 1, 1, "change", 40);
        best(scene("dares 99*(minute=40)*(wrongs=1);eats 1;tells 0;", one(0, 0, 1), one(50, 1, 0)), -1, 2, "change", 39);
    }

    private static void changeLikeOnes() {
        best(Edges::bare, -1, 0, "change", 0);
        best(Edges::bare, -1, 0, "change", 40);
        String law = "dares 99;eats 1;tells 0;";
        // Of like ones the least: 01 ahead of 02, 12 ahead of 13.
        best(scene(law, one(0, 1023, 0), one(50, 0, 0), one(50, 0, 0)), 1, 2, "change", 0);
        best(scene(law, one(50, 1023, 0), one(0, 1023, 0), one(50, 0, 0), one(50, 0, 0)), 12, 3, "change", 0);
        best(scene(law, one(50, 0, 0), one(50, 0, 0), one(0, 1023, 0)), 2, 2, "change", 0);
        // As many as so is none.
        best(scene(law, one(0, 1023, 0), one(0, 0, 0)), -1, 1, "change", 0);
        best(scene(law, one(0, 0, 0), one(0, 0, 0)), -1, 0, "change", 0);
    }

    private static void bold() {
        for (int dares : new int[] {0, 1, 50, 98, 99}) {
            for (int shyness : new int[] {0, 99}) {
                asked(scene("dares " + dares + ";eats 1;tells 0;", one(0, 0, shyness)), dares, "bold", 0);
                asked(scene("dares " + dares + ";eats 1;tells 0;", one(20, 1023, shyness)), dares, "bold", 0);
            }
        }
        asked(scene("dares 9999;eats 1;tells 0;", one(0, 0, 0)), 99, "bold", 0);
        asked(scene("dares -1;eats 1;tells 0;", one(0, 0, 0)), 0, "bold", 0);
        // By a text that tells of SHY the greatest one may stand alone.
        asked(scene("dares 99*(shy=7);eats 1;tells 0;", one(0, 0, 50)), 7, "bold", 0);
        asked(scene("dares 99*(shy=99);eats 1;tells 0;", one(0, 0, 50)), 99, "bold", 0);
        asked(scene("dares 0;eats 1;tells 0;", one(25, 1022, 50)), 99, "bold", 0);
        asked(() -> {
            StalemateDinner d = with("dares 0;eats 1;tells 0;", one(50, 1023, 99));
            d.put(0, 4, 1);
            return d;
        }, 99, "bold", 0);
    }

    private static void boldByNone() {
        asked(scene("dares 99;eats 1;tells 0;", one(0, 1023, 0)), -1, "bold", 0);
        asked(scene("dares 99;eats 1;tells 0;", one(50, 0, 0)), -1, "bold", 0);
        asked(scene("dares 99;eats 1;tells 0;", one(19, 511, 0)), -1, "bold", 0);
        asked(scene("dares 99;eats 1;tells 0;", one(0, 1022, 0)), 99, "bold", 0);
        asked(scene("dares 99;eats 1;tells 0;", one(19, 510, 0)), 99, "bold", 0);
    }

    private static void mean() {
        for (int seats = 1; seats <= 6; seats++) {
            for (int sum : new int[] {0, 1, 2, 3, 4, 5, 6, 9, 10, 12, 20, 30, 60, 98, 99, 99 * seats - 1, 99 * seats}) {
                StalemateDinner d = bare();
                int rest = Math.min(sum, 99 * seats);
                int bored = rest;
                for (int p = 0; p < seats; p++) {
                    d.guest(0, 0, 0);
                    d.put(p, 2, Math.min(99, rest));
                    rest -= Math.min(99, rest);
                }
                int divisor = java.math.BigInteger.valueOf(bored).gcd(java.math.BigInteger.valueOf(seats)).intValue();
                due(d, bored / divisor, "mean", 0);
                due(d, seats / divisor, "mean", 1);
            }
        }
        asked(Edges::laid, 11, "mean", 0);
        asked(Edges::laid, 3, "mean", 1);
        // None bored: nothing by one.
        due(with("dares 1;eats 1;tells 1;", one(0, 0, 0), one(0, 0, 0)), 0, "mean", 0);
        due(with("dares 1;eats 1;tells 1;", one(0, 0, 0), one(0, 0, 0)), 1, "mean", 1);
    }

    private static void meanOfNone() {
        for (int part : beside(0, 1)) {
            refused(Edges::laid, NO, "mean", part);
            refused(Edges::full, NO, "mean", part);
            refused(Edges::bare, NO, "mean", part);
        }
        refused(Edges::bare, NO, "mean", 0);
        refused(Edges::bare, NO, "mean", 1);
        refused(() -> {
            StalemateDinner d = bare();
            d.image();
            d.guest(0, 0, 0);
            d.back();
            return d;
        }, NO, "mean", 1);
        due(with("dares 1;eats 1;tells 1;", one(0, 0, 0)), 1, "mean", 1);
    }
}
