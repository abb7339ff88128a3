/** The edges of the terms' first section, but for texts: acts, minutes, guests, kinds. */
public final class EdgeKindsTest extends Edges {
    public static void main(String[] args) {
        of("use", "An object is used for at most 512 calls after it has been made", EdgeKindsTest::calls);
        of("terms", "ACTS 0 .. 9; sets of them are told as bits (0 .. 1023).", EdgeKindsTest::acts);
        of("terms", "MINUTE (0 .. 999; 0 at first;", EdgeKindsTest::minutes);
        of("terms", "in thought it may pass 999).", EdgeKindsTest::minutesPastTheLast);
        of("terms", "GUESTS are numbered from 0 on, 6 at most, in a ring:", EdgeKindsTest::sixGuests);
        of("terms", "of a KIND, with MORE (0 .. 9);", EdgeKindsTest::more);
        of("terms", "WRONG: ACTS;", EdgeKindsTest::wrong);
        of("terms", "SHY (0 .. 99),", EdgeKindsTest::shy);
        of("terms", "BORED (0 .. 99; 0 as one comes),", () -> state(2));
        of("terms", "ATE (0 .. 99; 0 as one comes),", () -> state(3));
        of("terms", "in DANGER or not (not, as one comes).", EdgeKindsTest::danger);

        of("terms", "KINDS: whether one MINDS an ACT, it being WRONG for one or not, the text saying how much one DARES; how much "
                + "one EATS by an ACT, the text saying so much; how many seats on it TELLS, the text saying so many.",
                EdgeKindsTest::allKinds);
        of("terms", "0 GUEST: if it is WRONG, or one DARES less than one is SHY; that; that.", EdgeKindsTest::guest);
        of("terms", "1 BRED (a GUEST): MINDS ACT MORE, too;", EdgeKindsTest::bredMinds);
        of("terms", "EATS half (cut).", EdgeKindsTest::bredEats);
        of("terms", "2 HUNGRY (a GUEST): MINDS, if it is WRONG, and one DARES less than one is SHY;", EdgeKindsTest::hungryMinds);
        of("terms", "EATS as many more as the ACT's number.", EdgeKindsTest::hungryEats);
        of("terms", "3 CANDLE (a BRED): MINDS as a BRED, but only if MINUTE and the ACT's number are both even or both odd;",
                EdgeKindsTest::candleMinds);
        of("terms", "TELLS 0 less that.", EdgeKindsTest::candleTells);
        of("terms", "4 COOK (a HUNGRY): MINDS as a HUNGRY, but only if MINUTE is below MORE;", EdgeKindsTest::cookMinds);
        of("terms", "TELLS MORE more.", EdgeKindsTest::cookTells);
        of("terms", "5 WIDOW (a GUEST): MINDS all; EATS 0.", EdgeKindsTest::widow);
        of("terms", "(Whatever isn't told is as of the KIND above.", EdgeKindsTest::asOfTheKindAbove);
        of("terms", "EATS 0 at least.)", EdgeKindsTest::eatsNothingLess);
        Check.end();
    }

    private static void calls() {
        StalemateDinner d = with("dares 99;eats 1;tells 1;", one(0, 0, 0), one(0, 1, 0));
        // A count, five feeds, a text, a force, two guests: with these ten the last one is the 512th.
        for (int i = 0; i < 499; i++) {
            due(d, 2, "minute");
        }
        due(d, 499, "clock", 999);
        due(d, STATE, "minute");
        due(d, 24, "run", 12, 1);
    }

    private static void acts() {
        due(laid(), 1, "manners", 0, 0, 0);
        due(laid(), 1, "manners", 0, 9, 0);
        for (int a : beside(0, 9)) {
            refused(Edges::laid, -6, "manners", 0, a, 0);
        }
        StalemateDinner d = with("dares 99;eats 1;tells 1;", one(0, 1023, 0), one(0, 511, 0), one(0, 1022, 0));
        due(d, 1023, "told", 0, 0);
        due(d, 512 | 1, "dinner", 2);
        due(d, 9, "told", 1, 7);
        due(d, 0, "told", 2, 7);
        for (int wrongs : beside(0, 1023)) {
            refused(Edges::laid, BAD, "guest", 0, wrongs, 0);
            refused(Edges::laid, -7, "put", 0, 0, wrongs);
        }
    }

    private static void minutes() {
        due(bare(), 0, "count", 1);
        StalemateDinner d = laid();
        due(d, 5, "clock", 999);
        due(d, 999, "count", 1);
        due(d, 999, "clock", 0);
        due(d, 0, "count", 1);
        refusedBeside(Edges::laid, BAD, 0, 999, "clock");
        d.clock(998);
        due(d, 2, "minute");
        due(d, 999, "count", 1);
        refused(Edges::late, STATE, "minute");
    }

    /** One alone in minute 999, who dares to do an act in minute 1000 alone. */
    private static StalemateDinner atTheLast() {
        StalemateDinner d = with("dares 99*(minute=1000);eats 1;tells 0;", one(0, 0, 1));
        d.clock(999);
        Check.sheet(d, 0, 0, 0, 1, 0);
        return d;
    }

    private static void minutesPastTheLast() {
        int[][] run = {{0, 0}, {1, 0}, {2, 1}, {3, 1}, {40, 1}};
        for (int[] row : run) {
            asked(EdgeKindsTest::atTheLast, row[1], "run", row[0], 1);
        }
        asked(EdgeKindsTest::atTheLast, 1, "when", 7);
        asked(EdgeKindsTest::atTheLast, 0, "poker", 1, 1);
        asked(EdgeKindsTest::atTheLast, 1, "poker", 2, 1);
        asked(EdgeKindsTest::atTheLast, 2, "alarm", 2, 1);
        asked(EdgeKindsTest::atTheLast, 0, "change", 1, 1);
        asked(EdgeKindsTest::atTheLast, 1, "change", 2, 1);
        asked(EdgeKindsTest::atTheLast, -1, "judge", 0);
        asked(EdgeKindsTest::atTheLast, 0b000011, "kinds", 0, 0, 0);
        asked(EdgeKindsTest::atTheLast, 1023, "kinds", 0, 0, 1);
        asked(EdgeKindsTest::atTheLast, 1023, "turned", 0, 0);
        asked(EdgeKindsTest::atTheLast, 99, "states", 0, 0, 1, 0);
        asked(EdgeKindsTest::atTheLast, 1, "states", 0, 0, 1, 1);
        asked(EdgeKindsTest::atTheLast, 0, "feared", 0);
        asked(EdgeKindsTest::atTheLast, 0b10, "laws", 0);
        asked(EdgeKindsTest::atTheLast, 1, "drawn", 0, 0);
        asked(EdgeKindsTest::atTheLast, 1, "drawn", 0, 1);
        asked(EdgeKindsTest::atTheLast, 1, "odds", 0, 40, 1, 0);
        asked(EdgeKindsTest::atTheLast, 0, "odds", 0, 40, 2, 0);
        StalemateDinner d = atTheLast();
        due(d, 3, "film", 1, 3);
        due(d, -1, "judge", 1);
        due(d, 999, "count", 1);
        due(d, STATE, "minute");
        // The farthest in thought: 60 minutes behind 999.
        d = with("dares minute-960;eats 1;tells 0;", one(20, 1023, 99));
        d.clock(999);
        due(d, 60, "when", 7);
        d.clock(998);
        due(d, -1, "when", 7);
    }

    private static void sixGuests() {
        StalemateDinner d = with("dares 99;eats 1;tells 1;");
        for (int p = 0; p < 6; p++) {
            due(d, p, "guest", 0, 0, 0);
        }
        due(d, 0, "told", 5, 9);
        due(d, 1, "told", 0, 9);
        due(d, 6, "count", 0);
        refused(Edges::full, FULL, "guest", 0, 0, 0);
        due(full(), 5, "told", 5, 5);
        for (int p : beside(0, 5)) {
            refused(Edges::full, -5, "told", p, 5);
        }
        d = with("dares 99;eats 1;tells -1;", one(0, 0, 0), one(0, 0, 0), one(0, 0, 0), one(0, 0, 0), one(0, 0, 0), one(0, 0, 0));
        due(d, 5, "told", 0, 9);
        due(d, 4, "told", 5, 9);
    }

    private static void more() {
        StalemateDinner d = bare();
        int[] kindMore = {0, 9, 10, 49, 50, 59};
        for (int p = 0; p < 6; p++) {
            due(d, p, "guest", kindMore[p], 0, 0);
            due(d, kindMore[p] / 10, "told", p, 5);
            due(d, p % 2 == 0 ? 0 : 9, "told", p, 6);
        }
        for (int v : beside(0, 59)) {
            refused(Edges::laid, BAD, "guest", v, 0, 0);
        }
    }

    private static void wrong() {
        StalemateDinner d = bare();
        due(d, 0, "guest", 0, 1023, 0);
        due(d, 1023, "put", 0, 0, 0);
        due(d, 0, "put", 0, 0, 1023);
        due(d, 1023, "told", 0, 0);
        for (int wrongs : beside(0, 1023)) {
            refused(Edges::laid, BAD, "guest", 0, wrongs, 0);
            refused(Edges::laid, -7, "put", 1, 0, wrongs);
        }
    }

    private static void shy() {
        StalemateDinner d = bare();
        due(d, 0, "guest", 0, 0, 0);
        due(d, 0, "told", 0, 1);
        due(d, 1, "guest", 0, 0, 99);
        due(d, 99, "told", 1, 1);
        due(d, 0, "put", 0, 1, 99);
        due(d, 99, "put", 0, 1, 0);
        for (int v : beside(0, 99)) {
            refused(Edges::laid, BAD, "guest", 0, 0, v);
            refused(Edges::laid, -7, "put", 0, 1, v);
        }
    }

    private static void state(int what) {
        StalemateDinner d = bare();
        d.guest(59, 1023, 99);
        due(d, 0, "told", 0, what);
        due(d, 0, "put", 0, what, 99);
        due(d, 99, "told", 0, what);
        due(d, 99, "put", 0, what, 0);
        due(d, 0, "told", 0, what);
        for (int v : beside(0, 99)) {
            refused(Edges::laid, -7, "put", 0, what, v);
        }
        anewBehindAnother(what, 99);
    }

    /** Who comes where another one sat is as one comes. */
    private static void anewBehindAnother(int what, int v) {
        StalemateDinner d = bare();
        d.image();
        d.guest(0, 0, 0);
        d.put(0, what, v);
        d.back();
        d.guest(0, 0, 0);
        due(d, 0, "told", 0, what);
    }

    private static void danger() {
        StalemateDinner d = bare();
        d.guest(59, 1023, 99);
        due(d, 0, "told", 0, 4);
        due(d, 0, "put", 0, 4, 1);
        due(d, 1, "told", 0, 4);
        due(d, 1, "put", 0, 4, 0);
        due(d, 0, "told", 0, 4);
        for (int v : beside(0, 1)) {
            refused(Edges::laid, -7, "put", 0, 4, v);
            refused(Edges::laid, -7, "put", 1, 4, v);
        }
        anewBehindAnother(4, 1);
    }

    /** Each kind at once: what it minds, eats and tells by ACT 4, which is its MORE, wrong or not, daring or not. */
    private static void allKinds() {
        int[] minded = {1, 1, 1, 1, 0, 1};
        int[] eaten = {9, 4, 13, 4, 13, 0};
        int[] told = {2, 3, 4, 1, 4, 1};
        StalemateDinner d = with("dares 50;eats 9;tells 2;", one(4, 16, 51), one(14, 16, 51), one(24, 16, 51), one(34, 16, 51),
                one(44, 16, 51), one(54, 16, 51));
        d.clock(4);
        for (int p = 0; p < 6; p++) {
            due(d, 1 - minded[p], "manners", p, 4, 0);
            due(d, eaten[p], "manners", p, 4, 1);
            due(d, told[p], "told", p, 9);
        }
    }

    private static void guest() {
        StalemateDinner d = with("dares 50;eats 3;tells 2;", one(2, 4, 50), one(2, 4, 51), one(2, 4, 0));
        int[][] right = {{0, 2, 0}, {0, 3, 1}, {0, 0, 1}, {0, 9, 1}, {1, 3, 0}, {1, 2, 0}, {1, 0, 0}, {1, 9, 0}, {2, 2, 0}, {2, 1, 1}};
        for (int[] row : right) {
            due(d, row[2], "manners", row[0], row[1], 0);
        }
        for (int a = 0; a < 10; a++) {
            due(d, 3, "manners", 0, a, 1);
        }
        due(d, 2, "told", 0, 9);
        due(d, 1, "told", 2, 9);
    }

    private static void bredMinds() {
        StalemateDinner d = with("dares 50;eats 1;tells 1;", one(10, 0, 50), one(19, 0, 50), one(19, 1, 0), one(19, 0, 51));
        int[][] right = {{0, 0, 0}, {0, 1, 1}, {0, 9, 1}, {1, 9, 0}, {1, 8, 1}, {1, 0, 1}, {2, 0, 0}, {2, 9, 0}, {2, 5, 1},
            {3, 8, 0}, {3, 9, 0}};
        for (int[] row : right) {
            due(d, row[2], "manners", row[0], row[1], 0);
        }
    }

    private static void bredEats() {
        StalemateDinner d = with("dares 99;eats ate;tells 1;", one(10, 0, 0));
        int[][] half = {{0, 0}, {1, 0}, {2, 1}, {3, 1}, {98, 49}, {99, 49}};
        for (int[] row : half) {
            d.put(0, 3, row[0]);
            due(d, row[1], "manners", 0, 0, 1);
            due(d, row[1], "manners", 0, 9, 1);
        }
    }

    private static void hungryMinds() {
        StalemateDinner d = with("dares 50;eats 1;tells 1;", one(25, 512 | 1, 50));
        for (int a : new int[] {0, 5, 9}) {
            due(d, 1, "manners", 0, a, 0);
        }
        d.put(0, 1, 51);
        due(d, 0, "manners", 0, 0, 0);
        due(d, 0, "manners", 0, 9, 0);
        due(d, 1, "manners", 0, 5, 0);
        due(d, 1, "manners", 0, 1, 0);
        due(d, 1, "manners", 0, 8, 0);
    }

    private static void hungryEats() {
        StalemateDinner d = with("dares 99;eats ate;tells 1;", one(20, 0, 0));
        due(d, 0, "manners", 0, 0, 1);
        due(d, 1, "manners", 0, 1, 1);
        due(d, 9, "manners", 0, 9, 1);
        d.put(0, 3, 99);
        due(d, 99, "manners", 0, 0, 1);
        due(d, 108, "manners", 0, 9, 1);
    }

    private static void candleMinds() {
        // MORE 4; acts 0, 1 and 9 are wrong.
        StalemateDinner d = with("dares 50;eats 1;tells 1;", one(34, 512 | 2 | 1, 50));
        int even = 1 | 16;
        int odd = 2 | 512;
        for (int minute : new int[] {0, 1, 2, 3, 998, 999}) {
            d.clock(minute);
            for (int a = 0; a < 10; a++) {
                boolean minds = ((minute % 2 == 0 ? even : odd) >> a & 1) == 1;
                due(d, minds ? 0 : 1, "manners", 0, a, 0);
            }
        }
        d.put(0, 1, 51);
        for (int minute : new int[] {0, 1, 998, 999}) {
            d.clock(minute);
            for (int a = 0; a < 10; a++) {
                due(d, a % 2 == minute % 2 ? 0 : 1, "manners", 0, a, 0);
            }
        }
        // In thought, past 999: in minute 999 odd acts are minded, in minute 1000 even ones.
        d = with("dares 99;eats 1;tells 0;", one(30, 1023, 0));
        d.clock(999);
        due(d, 0, "told", 0, 7);
        due(d, 2, "run", 2, 1);
        d = with("dares 99;eats 1;tells 0;", one(30, 0, 0));
        d.clock(999);
        due(d, 3, "run", 2, 10);
    }

    private static void candleTells() {
        StalemateDinner d = with("dares 99;eats 1;tells ate-bored;", one(30, 0, 0), one(0, 0, 0), one(0, 0, 0), one(0, 0, 0), one(0, 0, 0));
        int[][] told = {{0, 0, 0}, {1, 0, 4}, {0, 1, 1}, {99, 0, 1}, {0, 99, 4}, {5, 0, 0}, {6, 0, 4}};
        for (int[] row : told) {
            d.put(0, 3, row[0]);
            d.put(0, 2, row[1]);
            due(d, row[2], "told", 0, 9);
        }
    }

    private static void cookMinds() {
        StalemateDinner d = with("dares 0;eats 1;tells 0;", one(49, 512 | 1, 1), one(41, 1, 1), one(40, 1, 1), one(49, 1, 0));
        // Who, in which minute, which act, and whether it is right.
        int[][] right = {{0, 8, 0, 0}, {0, 9, 0, 1}, {0, 0, 9, 0}, {0, 8, 9, 0}, {0, 9, 9, 1}, {0, 8, 5, 1}, {0, 999, 0, 1},
            {1, 0, 0, 0}, {1, 1, 0, 1}, {2, 0, 0, 1}, {2, 999, 0, 1}, {3, 0, 0, 1}};
        for (int[] row : right) {
            d.clock(row[1]);
            due(d, row[3], "manners", row[0], row[2], 0);
        }
    }

    private static void cookTells() {
        StalemateDinner d = with("dares 99;eats 1;tells ate-bored;", one(49, 0, 0), one(40, 0, 0), one(0, 0, 0), one(0, 0, 0), one(0, 0, 0));
        // ATE, BORED, who is told by MORE 9, and by MORE 0 from the next seat.
        int[][] told = {{0, 0, 4, 1}, {1, 0, 0, 2}, {99, 0, 3, 0}, {0, 99, 0, 2}, {0, 9, 0, 2}, {0, 10, 4, 1}};
        for (int[] row : told) {
            for (int p = 0; p < 2; p++) {
                d.put(p, 3, row[0]);
                d.put(p, 2, row[1]);
                due(d, row[2 + p], "told", p, 9);
            }
        }
    }

    private static void widow() {
        StalemateDinner d = with("dares 99;eats 99;tells 1;", one(50, 0, 0), one(59, 1023, 99));
        for (int p = 0; p < 2; p++) {
            for (int a = 0; a < 10; a++) {
                due(d, 0, "manners", p, a, 0);
                due(d, 0, "manners", p, a, 1);
            }
        }
        due(d, 1, "told", 0, 8);
        d.put(0, 4, 1);
        due(d, 0, "told", 0, 7);
        due(d, 0, "act", 0);
        due(d, 0, "told", 0, 3);
    }

    private static void asOfTheKindAbove() {
        StalemateDinner d = with("dares 99;eats ate;tells 1;", one(19, 0, 0), one(29, 0, 0), one(39, 0, 0), one(49, 0, 0), one(59, 0, 0));
        for (int p = 0; p < 5; p++) {
            d.put(p, 3, 99);
        }
        due(d, 49, "manners", 2, 9, 1);
        due(d, 108, "manners", 3, 9, 1);
        due(d, 99, "manners", 3, 0, 1);
        int[] told = {1, 2, 1, 3, 0};
        for (int p = 0; p < 5; p++) {
            due(d, told[p], "told", p, 9);
        }
        for (int p = 0; p < 5; p++) {
            d.put(p, 3, 1);
        }
        due(d, 0, "manners", 2, 9, 1);
        due(d, 1, "manners", 3, 0, 1);
        due(d, 10, "manners", 3, 9, 1);
    }

    private static void eatsNothingLess() {
        StalemateDinner d = with("dares 99;eats ate-50;tells 1;", one(0, 0, 0), one(10, 0, 0), one(20, 0, 0), one(30, 0, 0), one(40, 0, 0),
                one(50, 0, 0));
        // The text says -50, -1, 0, 1.
        int[] ate = {0, 49, 50, 51};
        int[][] eaten = {{0, 0, 0, 0, 0, 0}, {0, 0, 0, 0, 0, 0}, {0, 0, 0, 0, 0, 0}, {1, 0, 1, 0, 1, 0}};
        int[][] more = {{0, 0, 9, 0, 9, 0}, {0, 0, 9, 0, 9, 0}, {0, 0, 9, 0, 9, 0}, {1, 0, 10, 0, 10, 0}};
        for (int i = 0; i < ate.length; i++) {
            for (int p = 0; p < 6; p++) {
                d.put(p, 3, ate[i]);
                due(d, eaten[i][p], "manners", p, 0, 1);
                due(d, more[i][p], "manners", p, 9, 1);
            }
        }
    }
}
