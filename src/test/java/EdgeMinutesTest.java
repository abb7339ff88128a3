/** The edges of minutes: the terms' second section, up to its minutes, and promises 13 to 17. */
public final class EdgeMinutesTest extends Edges {
    public static void main(String[] args) {
        of("terms", "An ACT is RIGHT for one, if one doesn't MIND it.", EdgeMinutesTest::right);
        of("terms", "THE ACT of one: in DANGER ACT 0, be it RIGHT or not; else the first that is RIGHT; -1: none is.",
                EdgeMinutesTest::theAct);
        of("terms", "STUCK: not in DANGER, and none is RIGHT.", EdgeMinutesTest::stuck);
        of("terms", "TOLD BY one: who sits as many seats on as it TELLS (round; it may be oneself).", EdgeMinutesTest::toldBy);
        of("terms", "A MINUTE: one by one, by numbers (told as all is then;", EdgeMinutesTest::oneByOne);
        of("terms", "EATS, TELLS told ahead of what is done):", EdgeMinutesTest::toldAhead);
        of("terms", "is there THE ACT of one, ATE is more by what one EATS by it (99 at most),", EdgeMinutesTest::ateAtMost);
        of("terms", "it is WRONG for one, and, if who is TOLD BY one is another one, WRONG for that one, if it wasn't, or not, if it was;",
                EdgeMinutesTest::wrongThen);
        of("terms", "one is in no DANGER any more;", EdgeMinutesTest::noMoreDanger);
        of("terms", "else BORED is 1 more (99 at most).", EdgeMinutesTest::boredAtMost);
        of("terms", "At last MINUTE is 1 more.", EdgeMinutesTest::minuteAtLast);

        of("13", "A MINUTE, truly: how many did an ACT.", EdgeMinutesTest::howManyDid);
        of("13", "STATE: MINUTE is 999.", EdgeMinutesTest::lastMinute);
        of("14", "One does THE ACT, truly, as in a MINUTE (MINUTE stays): which.", EdgeMinutesTest::act);
        of("14", "-5: none such;", () -> noneSuch("act"));
        of("14", "STATE: there is none.", EdgeMinutesTest::actOfNone);
        of("15", "Two have each other's WRONG ACTS, truly: those of the first one then (bits).", EdgeMinutesTest::swap);
        of("15", "-5: no such two, one and the same.", EdgeMinutesTest::swapRefuses);
        of("16", "n MINUTES (0 .. 40), in thought:", EdgeMinutesTest::runMinutes);
        of("16", "who are STUCK then (what 0; bits), how many ACTS were done in them (1), ATE of all, together (2),",
                EdgeMinutesTest::runOfAll);
        of("16", "WRONG of who is numbered what less 10 (10 ..; bits), ATE of who is numbered what less 20 (20 ..), "
                + "BORED of who is numbered what less 30 (30 ..).", EdgeMinutesTest::runOfOne);
        of("16", "BAD.", EdgeMinutesTest::runRefuses);
        of("17", "Behind how many MINUTES (0 .. 60) GUEST what (0 .. 5) is STUCK, all are (6), nobody is (7) for the first time;",
                EdgeMinutesTest::when);
        of("17", "-1: not by then.", EdgeMinutesTest::whenNotByThen);
        of("17", "-5: what, none such.", EdgeMinutesTest::whenRefuses);
        Check.end();
    }

    static void noneSuch(String name, int... further) {
        for (int p : new int[] {-1, 3, 6, MIN, MAX}) {
            int[] args = new int[1 + further.length];
            args[0] = p;
            System.arraycopy(further, 0, args, 1, further.length);
            refused(Edges::laid, -5, name, args);
        }
        for (int p : beside(0, 5)) {
            int[] args = new int[1 + further.length];
            args[0] = p;
            System.arraycopy(further, 0, args, 1, further.length);
            refused(Edges::full, -5, name, args);
        }
        int[] args = new int[1 + further.length];
        System.arraycopy(further, 0, args, 1, further.length);
        refused(Edges::bare, -5, name, args);
    }

    private static void right() {
        StalemateDinner d = with("dares 50;eats 1;tells 1;", one(0, 1, 50), one(0, 1, 51), one(50, 0, 0));
        int[][] rights = {{0, 0, 0}, {0, 1, 1}, {0, 9, 1}, {1, 1, 0}, {1, 9, 0}, {2, 0, 0}, {2, 9, 0}};
        for (int danger = 0; danger < 2; danger++) {
            for (int[] row : rights) {
                d.put(row[0], 4, danger);
                due(d, row[2], "manners", row[0], row[1], 0);
            }
        }
    }

    private static void theAct() {
        // WRONG, and which ACT is the first that isn't.
        int[][] rows = {{0, 0}, {1, 1}, {2, 0}, {255, 8}, {511, 9}, {1022, 0}, {1021, 1}, {1023, -1}, {767, 8}, {767 - 256, 9}};
        StalemateDinner d = with("dares 50;eats 1;tells 1;", one(0, 0, 0));
        for (int[] row : rows) {
            d.put(0, 0, row[0]);
            d.put(0, 4, 0);
            due(d, row[1], "told", 0, 7);
            d.put(0, 4, 1);
            due(d, 0, "told", 0, 7);
        }
        d.put(0, 1, 51);
        due(d, 0, "told", 0, 7);
        d.put(0, 4, 0);
        due(d, -1, "told", 0, 7);
    }

    private static void stuck() {
        StalemateDinner d = with("dares 50;eats 1;tells 1;", one(0, 1023, 0), one(0, 1022, 0), one(0, 511, 0), one(0, 0, 51), one(0, 0, 50),
                one(50, 0, 0));
        int[] is = {1, 0, 0, 1, 0, 1};
        for (int p = 0; p < 6; p++) {
            due(d, is[p], "told", p, 8);
        }
        due(d, 0b101001, "dinner", 0);
        due(d, 3, "count", 2);
        for (int p = 0; p < 6; p++) {
            d.put(p, 4, 1);
            due(d, 0, "told", p, 8);
        }
        due(d, 0, "dinner", 0);
        due(d, 0, "count", 2);
    }

    /** One seat after the other, on or back. */
    private static int seatsOn(int p, int on, int seats) {
        int at = p;
        for (int i = 0; i < Math.abs(on); i++) {
            at += on > 0 ? 1 : -1;
            at = at == seats ? 0 : at == -1 ? seats - 1 : at;
        }
        return at;
    }

    private static void toldBy() {
        // Guests, and then candles, and then cooks of MORE 9 tell all of -99 .. 99.
        int[] kindMore = {0, 30, 49};
        for (int k = 0; k < 3; k++) {
            for (int seats = 1; seats <= 6; seats++) {
                StalemateDinner d = null;
                for (int tells = -99; tells <= 99; tells++) {
                    if (d == null || tells % 40 == 0) {
                        d = with("dares 99;eats 1;tells ate-bored;");
                        for (int p = 0; p < seats; p++) {
                            d.guest(kindMore[k], 0, 0);
                        }
                    }
                    int p = Math.floorMod(tells, seats);
                    d.put(p, 3, Math.max(0, tells));
                    d.put(p, 2, Math.max(0, -tells));
                    int on = k == 0 ? tells : k == 1 ? -tells : tells + 9;
                    due(seats + " seats, one tells " + tells, d.told(p, 9), seatsOn(p, on, seats));
                }
            }
        }
        StalemateDinner d = with("dares 99;eats 1;tells 6;", one(0, 0, 0), one(0, 0, 0), one(0, 0, 0), one(0, 0, 0), one(0, 0, 0), one(0, 0, 0));
        due(d, 0, "told", 0, 9);
        due(d, 5, "told", 5, 9);
        d = with("dares 99;eats 1;tells 1;", one(0, 0, 0));
        due(d, 0, "told", 0, 9);
    }

    private static void oneByOne() {
        // The first does ACT 0, and with it turned wrong the second does ACT 1, and with it turned wrong the third ACT 0.
        StalemateDinner d = with("dares 99;eats 1;tells 1;", one(0, 0, 0), one(0, 0, 0), one(0, 0, 0));
        due(d, 3, "minute");
        due(d, 0b000, "told", 0, 0);
        due(d, 0b011, "told", 1, 0);
        due(d, 0b011, "told", 2, 0);
        // Only who comes later hears of it in the same minute.
        d = with("dares 99;eats 1;tells 1;", one(0, 1022, 0), one(0, 1023, 0), one(0, 1023, 0));
        due(d, 3, "minute");
        d = with("dares 99;eats 1;tells 0-1;", one(0, 1023, 0), one(0, 1023, 0), one(0, 1022, 0));
        due(d, 1, "minute");
        due(d, 1, "minute");
        due(d, 2, "minute");
    }

    private static void toldAhead() {
        // What ATE is ahead of the act tells how much is eaten and who is told.
        StalemateDinner d = with("dares 99;eats ate+1;tells ate;", one(0, 0, 0), one(50, 0, 0));
        due(d, 1, "minute");
        due(d, 1, "told", 0, 3);
        due(d, 0, "told", 1, 0);
        due(d, 1, "minute");
        due(d, 3, "told", 0, 3);
        due(d, 2, "told", 1, 0);
        // What is WRONG ahead of the act does, too.
        d = with("dares 99;eats wrongs;tells wrongs=1;", one(0, 0, 0), one(50, 0, 0));
        due(d, 1, "minute");
        due(d, 0, "told", 0, 3);
        due(d, 0, "told", 1, 0);
        due(d, 1, "minute");
        due(d, 1, "told", 0, 3);
        due(d, 2, "told", 1, 0);
        due(d, 1, "minute");
        due(d, 3, "told", 0, 3);
        due(d, 2, "told", 1, 0);
    }

    private static void ateAtMost() {
        // A hungry one does ACT 9, in danger ACT 0: ATE before, what the text says, ATE then.
        int[][] rows = {{0, 0, 9}, {89, 0, 98}, {90, 0, 99}, {91, 0, 99}, {99, 0, 99}, {0, 89, 98}, {0, 90, 99}, {0, 91, 99}, {0, 99, 99},
            {99, 99, 99}};
        for (int[] row : rows) {
            StalemateDinner d = with("dares 0;eats bored;tells 0;", one(20, 511, 1));
            d.put(0, 3, row[0]);
            d.put(0, 2, row[1]);
            // Act 9 isn't wrong, though one does not dare.
            due(d, 9, "told", 0, 7);
            due(d, 1, "minute");
            due(d, row[2], "told", 0, 3);
            d.put(0, 3, row[0]);
            d.put(0, 0, 511);
            due(d, 9, "act", 0);
            due(d, row[2], "told", 0, 3);
        }
        StalemateDinner d = with("dares 99;eats 1;tells 0;", one(0, 0, 0));
        d.put(0, 3, 98);
        due(d, 99, "run", 1, 2);
        due(d, 99, "run", 2, 2);
        due(d, 99, "run", 2, 20);
    }

    private static void wrongThen() {
        // ACT 0 is right for the first; for the second it isn't wrong, or is.
        for (int was = 0; was < 2; was++) {
            StalemateDinner d = with("dares 99;eats 1;tells 1;", one(0, 0, 0), one(50, was, 0));
            due(d, 1, "minute");
            due(d, 1, "told", 0, 0);
            due(d, 1 - was, "told", 1, 0);
        }
        // ACT 9 as well.
        for (int was = 0; was < 2; was++) {
            StalemateDinner d = with("dares 99;eats 1;tells 1;", one(0, 511, 0), one(50, 512 * was, 0));
            due(d, 1, "minute");
            due(d, 1023, "told", 0, 0);
            due(d, 512 * (1 - was), "told", 1, 0);
        }
        // One who is told by oneself: it is wrong, and not turned.
        StalemateDinner d = with("dares 99;eats 1;tells 0;", one(0, 0, 0), one(50, 0, 0));
        due(d, 1, "minute");
        due(d, 1, "told", 0, 0);
        due(d, 0, "told", 1, 0);
        d = with("dares 99;eats 1;tells 1;", one(0, 0, 0));
        due(d, 1, "minute");
        due(d, 1, "told", 0, 0);
        // In danger ACT 0 may have been wrong: it stays so, for oneself.
        d = with("dares 99;eats 1;tells 1;", one(0, 1, 0), one(50, 1, 0));
        d.put(0, 4, 1);
        due(d, 1, "minute");
        due(d, 1, "told", 0, 0);
        due(d, 0, "told", 1, 0);
        // A candle does an ACT that is wrong, but in another minute: it stays wrong.
        d = with("dares 99;eats 1;tells 0;", one(39, 1, 0));
        d.clock(1);
        due(d, 1, "minute");
        due(d, 1, "told", 0, 0);
    }

    private static void noMoreDanger() {
        StalemateDinner d = with("dares 99;eats 1;tells 1;", one(0, 1023, 0), one(50, 0, 0), one(0, 0, 0));
        for (int p = 0; p < 3; p++) {
            d.put(p, 4, 1);
        }
        due(d, 3, "minute");
        due(d, 0, "dinner", 1);
        for (int p = 0; p < 3; p++) {
            due(d, 0, "told", p, 4);
            due(d, 0, "told", p, 2);
        }
        d.put(1, 4, 1);
        due(d, 0, "act", 1);
        due(d, 0, "told", 1, 4);
        due(d, STATE, "act", 1);
    }

    private static void boredAtMost() {
        StalemateDinner d = with("dares 99;eats 1;tells 0;", one(50, 0, 0), one(0, 0, 0));
        int[][] rows = {{0, 1}, {97, 98}, {98, 99}, {99, 99}};
        for (int[] row : rows) {
            d.put(0, 2, row[0]);
            due(d, row[1], "run", 1, 30);
            due(d, 1, "minute");
            due(d, row[1], "told", 0, 2);
            due(d, 0, "told", 1, 2);
        }
        d.put(0, 2, 60);
        due(d, 98, "run", 38, 30);
        due(d, 99, "run", 39, 30);
        due(d, 99, "run", 40, 30);
    }

    private static void minuteAtLast() {
        // All of one minute see the same MINUTE.
        StalemateDinner d = with("dares 99*(minute=5);eats 1;tells 0;", one(0, 0, 1), one(0, 0, 1), one(0, 0, 1));
        d.clock(4);
        due(d, 0, "minute");
        due(d, 5, "count", 1);
        due(d, 3, "minute");
        due(d, 6, "count", 1);
        due(d, 0, "minute");
        due(d, 7, "count", 1);
        // Nobody's minute is one, too.
        d = bare();
        due(d, 0, "minute");
        due(d, 1, "count", 1);
    }

    private static void howManyDid() {
        due(bare(), 0, "minute");
        StalemateDinner d = bare();
        for (int p = 0; p < 6; p++) {
            d.guest(0, 1023, 0);
        }
        due(d, 0, "minute");
        due(d, 0, "dinner", 4);
        for (int p = 0; p < 6; p++) {
            d.put(p, 4, 1);
        }
        due(d, 6, "minute");
        due(d, 6, "dinner", 4);
    }

    private static void lastMinute() {
        StalemateDinner d = laid();
        d.clock(998);
        due(d, 2, "minute");
        due(d, 999, "count", 1);
        due(d, STATE, "minute");
        refused(Edges::late, STATE, "minute");
        refused(() -> {
            StalemateDinner nobody = bare();
            nobody.clock(999);
            return nobody;
        }, STATE, "minute");
    }

    private static void act() {
        StalemateDinner d = with("dares 99;eats 3;tells 1;", one(0, 0, 0), one(0, 511, 0), one(50, 0, 0));
        due(d, 0, "act", 0);
        due(d, 3, "told", 0, 3);
        due(d, 1, "told", 0, 0);
        due(d, 510, "told", 1, 0);
        due(d, 0, "act", 1);
        due(d, 9, "act", 1);
        due(d, 1023, "told", 1, 0);
        due(d, 512 | 1, "told", 2, 0);
        due(d, 0, "count", 1);
        due(d, 0, "told", 2, 3);
        d.put(2, 4, 1);
        due(d, 0, "act", 2);
        due(d, 0, "told", 2, 4);
        due(d, 0, "told", 0, 0);
        // MINUTE stays, even where there is no further minute.
        d.clock(999);
        due(d, 0, "act", 0);
        due(d, 999, "count", 1);
        // The last seat tells the first one.
        d = full();
        d.put(5, 4, 1);
        due(d, 0, "act", 5);
    }

    private static void actOfNone() {
        refused(() -> {
            StalemateDinner d = laid();
            d.put(2, 0, 1023);
            return d;
        }, STATE, "act", 2);
        refused(() -> with("dares 99;eats 1;tells 1;", one(0, 1023, 0)), STATE, "act", 0);
        refused(() -> with("dares 50;eats 1;tells 1;", one(0, 0, 51)), STATE, "act", 0);
        refused(() -> with("dares 50;eats 1;tells 1;", one(50, 0, 0)), STATE, "act", 0);
        due(with("dares 99;eats 1;tells 1;", one(0, 511, 0)), 9, "act", 0);
        due(with("dares 50;eats 1;tells 1;", one(0, 0, 50)), 0, "act", 0);
    }

    private static void swap() {
        StalemateDinner d = with("dares 99;eats 1;tells 1;", one(1, 0, 3), one(12, 1023, 4));
        d.put(1, 2, 5);
        d.put(1, 3, 6);
        d.put(1, 4, 1);
        due(d, 1023, "swap", 0, 1);
        due(d, 1023, "told", 0, 0);
        due(d, 0, "told", 1, 0);
        int[][] rest = {{3, 0, 0, 0, 0, 1}, {4, 5, 6, 1, 1, 2}};
        for (int p = 0; p < 2; p++) {
            for (int what = 1; what <= 6; what++) {
                due(d, rest[p][what - 1], "told", p, what);
            }
        }
        due(d, 1023, "swap", 1, 0);
        due(d, 0, "told", 0, 0);
        d = full();
        int first = d.told(0, 0);
        due(d, first, "swap", 5, 0);
        due(d, first, "told", 5, 0);
        due(d, 0, "told", 0, 0);
    }

    private static void swapRefuses() {
        int[][] no = {{0, 3}, {3, 0}, {-1, 0}, {0, -1}, {0, 0}, {1, 1}, {2, 2}, {3, 3}, {-1, -1}, {MIN, 0}, {0, MAX}, {MAX, MIN}};
        for (int[] row : no) {
            refused(Edges::laid, -5, "swap", row);
        }
        for (int[] row : new int[][] {{0, 6}, {6, 5}, {5, 5}, {-1, 5}}) {
            refused(Edges::full, -5, "swap", row);
        }
        refused(Edges::bare, -5, "swap", 0, 1);
        refused(Edges::bare, -5, "swap", 0, 0);
    }

    private static StalemateDinner cook() {
        return with("dares 99;eats 1;tells 0;", one(40, 0, 0), one(50, 0, 0));
    }

    private static void runMinutes() {
        for (int n : new int[] {0, 1, 39, 40}) {
            asked(EdgeMinutesTest::cook, n, "run", n, 1);
            asked(EdgeMinutesTest::cook, n, "run", n, 20);
            asked(EdgeMinutesTest::cook, n, "run", n, 31);
        }
        for (int n : beside(0, 40)) {
            refused(EdgeMinutesTest::cook, BAD, "run", n, 1);
            refused(EdgeMinutesTest::cook, BAD, "run", n, 20);
        }
    }

    private static void runOfAll() {
        asked(Edges::bare, 0, "run", 40, 0);
        asked(Edges::bare, 0, "run", 40, 1);
        asked(Edges::bare, 0, "run", 40, 2);
        StalemateDinner d = with("dares 99;eats 99;tells 0;", one(40, 0, 0), one(40, 0, 0), one(40, 0, 0), one(40, 0, 0), one(40, 0, 0),
                one(40, 0, 0));
        due(d, 0, "run", 40, 0);
        due(d, 240, "run", 40, 1);
        due(d, 594, "run", 40, 2);
        due(d, 0, "run", 0, 1);
        due(d, 0, "run", 0, 2);
        for (int p = 0; p < 6; p++) {
            d.put(p, 3, 99);
        }
        due(d, 594, "run", 0, 2);
        d = bare();
        for (int p = 0; p < 6; p++) {
            d.guest(50, 0, 0);
        }
        due(d, 63, "run", 0, 0);
        due(d, 63, "run", 40, 0);
        d.put(5, 4, 1);
        due(d, 31, "run", 0, 0);
        due(d, 63, "run", 1, 0);
        due(d, 1, "run", 40, 1);
    }

    private static void runOfOne() {
        StalemateDinner d = with("dares 99;eats 2;tells 0;", one(0, 0, 0), one(50, 1023, 0), one(0, 511, 0), one(50, 5, 0), one(50, 6, 0),
                one(0, 0, 0));
        int[][] wrong = {{0, 7}, {1, 1023}, {2, 1023}, {3, 5}, {4, 6}, {5, 7}};
        int[] ate = {6, 0, 2, 0, 0, 6};
        int[] bored = {0, 3, 2, 3, 3, 0};
        for (int p = 0; p < 6; p++) {
            due(d, wrong[p][1], "run", 3, 10 + p);
            due(d, ate[p], "run", 3, 20 + p);
            due(d, bored[p], "run", 3, 30 + p);
        }
    }

    private static void runRefuses() {
        for (int what : new int[] {-1, 3, 9, 13, 19, 23, 29, 33, 36, 39, 40, 41, 50, 100, MIN, MAX}) {
            refused(Edges::laid, BAD, "run", 1, what);
        }
        for (int what : new int[] {9, 16, 19, 26, 29, 36, 39, 40, 46, 110}) {
            refused(Edges::full, BAD, "run", 0, what);
        }
        for (int what : new int[] {10, 20, 30}) {
            refused(Edges::bare, BAD, "run", 0, what);
        }
        for (int what : new int[] {0, 1, 2, 10, 15, 20, 25, 30, 35}) {
            due("run(0, " + what + ") is answered", full().run(0, what) >= 0 ? 1 : 0, 1);
        }
    }

    /** Hungry ones who are stuck as long as they don't dare. */
    private static StalemateDinner hungry(String dares, int shyness) {
        return with("dares " + dares + ";eats 1;tells 0;", one(20, 1023, shyness), one(20, 1023, shyness), one(20, 1023, shyness),
                one(20, 1023, shyness), one(20, 1023, shyness), one(20, 1023, shyness));
    }

    private static void when() {
        for (int what = 0; what <= 6; what++) {
            asked(() -> hungry("60-minute", 1), 60, "when", what);
            asked(() -> hungry("59-minute", 1), 59, "when", what);
            asked(() -> hungry("0", 1), 0, "when", what);
        }
        asked(() -> hungry("minute", 60), 60, "when", 7);
        asked(() -> hungry("minute", 59), 59, "when", 7);
        asked(() -> hungry("minute", 0), 0, "when", 7);
        asked(Edges::bare, 0, "when", 6);
        asked(Edges::bare, 0, "when", 7);
        // For the first time, though not for good.
        asked(() -> hungry("99*(1-(minute=3))", 1), 3, "when", 5);
        asked(() -> hungry("99*(minute=3)", 1), 3, "when", 7);
        // All are, when the last one is; nobody is, when the last one isn't.
        StalemateDinner d = with("dares 99-minute*more;eats 1;tells 0;", one(29, 1023, 99), one(23, 1023, 99), one(21, 1023, 60));
        int[] due = {1, 1, 40};
        for (int p = 0; p < 3; p++) {
            due(d, due[p], "when", p);
        }
        due(d, 40, "when", 6);
        due(d, 0, "when", 7);
        d = with("dares minute*more;eats 1;tells 0;", one(29, 1023, 18), one(23, 1023, 18), one(21, 1023, 18));
        due(d, 0, "when", 6);
        due(d, 18, "when", 7);
    }

    private static void whenNotByThen() {
        for (int what = 0; what <= 6; what++) {
            asked(() -> hungry("61-minute", 1), -1, "when", what);
            asked(() -> hungry("99", 1), -1, "when", what);
        }
        asked(() -> hungry("minute", 61), -1, "when", 7);
        asked(() -> hungry("0", 1), -1, "when", 7);
    }

    private static void whenRefuses() {
        for (int what : new int[] {-1, 3, 5, 8, MIN, MAX}) {
            refused(Edges::laid, -5, "when", what);
        }
        for (int what : beside(0, 7)) {
            refused(Edges::full, -5, "when", what);
        }
        for (int what = 0; what < 6; what++) {
            refused(Edges::bare, -5, "when", what);
        }
        due("when(2) of three is answered", laid().when(2) >= -1 ? 1 : 0, 1);
        due("when(5) of six is answered", full().when(5) >= -1 ? 1 : 0, 1);
    }
}
