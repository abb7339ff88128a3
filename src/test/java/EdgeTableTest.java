/** The edges of promises 1 to 12: the table, the law, guests. */
public final class EdgeTableTest extends Edges {
    public static void main(String[] args) {
        of("1", "Nobody at table.", EdgeTableTest::nobody);
        of("2", "0 GUESTS, 1 MINUTE, 2 who are STUCK (how many), 3 TEXTS, 4 THE LAW, 5 bytes of THE TAPE.", EdgeTableTest::count);
        of("2", "BAD.", () -> refusedBeside(Edges::laid, BAD, 0, 5, "count"));
        of("3", "MINUTE becomes v: what it was.", EdgeTableTest::clock);
        of("3", "BAD.", () -> refusedBeside(Edges::laid, BAD, 0, 999, "clock"));

        of("4", "The first n (1 .. 5)", EdgeTableTest::firstBytes);
        of("4", "of five bytes (0 .. 255 each)", EdgeTableTest::bytes);
        of("4", "come behind THE TAPE's, one by one: how many it has.", EdgeTableTest::oneByOne);
        of("4", "BAD: n, any of the five;", EdgeTableTest::feedBad);
        of("4", "FULL: they have not all room (none comes).", EdgeTableTest::feedFull);

        of("5", "THE TAPE, which is empty then (by a FAULT, too), is a TEXT: its number;", EdgeTableTest::text);
        of("5", "-100 less the place of its FAULT.", EdgeTableTest::textFault);
        of("5", "FULL (ahead of the FAULT; then THE TAPE stays).", EdgeTableTest::textFull);
        of("6", "A TEXT is THE LAW: which was.", EdgeTableTest::force);
        of("6", "BAD.", EdgeTableTest::forceBad);
        of("7", "What part 0 dares, 1 eats, 2 tells says of one of GUESTS.", EdgeTableTest::asks);
        of("7", "-1000: none such.", EdgeTableTest::asksNone);

        of("8", "One of GUESTS (kindMore: 10 times KIND, and MORE; wrongs: WRONG; shyness: SHY): the number.", EdgeTableTest::guest);
        of("8", "BAD;", EdgeTableTest::guestBad);
        of("8", "FULL.", EdgeTableTest::guestFull);
        of("9", "WRONG (what 0; bits), SHY (1), BORED (2), ATE (3), DANGER (4; 1, 0) becomes v: what it was.", EdgeTableTest::put);
        of("9", "-5: none such;", () -> EdgeMinutesTest.noneSuch("put", 1, 1));
        of("9", "-7: what, v.", EdgeTableTest::putRefuses);
        of("10", "What 0 .. 4 as of put(), 5 KIND, 6 MORE,", EdgeTableTest::told);
        of("10", "7 THE ACT of one now (-1), 8 whether one is STUCK (1, 0), 9 who is TOLD BY one.", EdgeTableTest::toldNow);
        of("10", "-5: none such;", () -> EdgeMinutesTest.noneSuch("told", 9));
        of("10", "-7: what.", EdgeTableTest::toldRefuses);
        of("11", "Of one and an ACT: whether it is RIGHT for one (what 0; 1, 0; in DANGER or not), how much one EATS by it (1).",
                EdgeTableTest::manners);
        of("11", "-5: none such;", () -> EdgeMinutesTest.noneSuch("manners", 9, 1));
        of("11", "-6: no such ACT;", EdgeTableTest::mannersNoAct);
        of("11", "-7: what.", EdgeTableTest::mannersRefuses);
        of("12", "Who are STUCK (what 0; bits), in DANGER (1; bits),", EdgeTableTest::dinnerWho);
        of("12", "which ACTS are RIGHT for anybody (2; bits), for all (3; bits; nobody there: all ACTS),", EdgeTableTest::dinnerActs);
        of("12", "ATE of all, together (4).", EdgeTableTest::dinnerAte);
        of("12", "BAD.", EdgeTableTest::dinnerBad);
        Check.end();
    }

    private static void nobody() {
        int[] counts = {0, 0, 0, 1, 0, 0};
        int[] dinner = {0, 0, 0, 1023, 0};
        for (int what = 0; what < 6; what++) {
            asked(Edges::bare, counts[what], "count", what);
        }
        for (int what = 0; what < 5; what++) {
            asked(Edges::bare, dinner[what], "dinner", what);
        }
        for (int p = 0; p < 6; p++) {
            asked(Edges::bare, -5, "told", p, 0);
            asked(Edges::bare, -11, "taken", p, 0);
        }
        for (int s = 0; s < 4; s++) {
            asked(Edges::bare, -11, "judge", s);
        }
        asked(Edges::bare, NO, "mean", 0);
        asked(Edges::bare, NO, "mean", 1);
        refused(Edges::bare, STATE, "back");
        due(bare(), 0, "minute");
        due(bare(), 0, "image");
        due(bare(), -100, "text");
        due(bare(), 0, "guest", 0, 0, 0);
    }

    private static void count() {
        StalemateDinner d = bare();
        for (int t = 1; t < 6; t++) {
            Check.text(d, "dares " + t + ";eats 1;tells 1;");
        }
        d.force(5);
        d.clock(999);
        Check.feed(d, " ".repeat(160));
        for (int p = 0; p < 6; p++) {
            d.guest(50, 0, 0);
        }
        int[] most = {6, 999, 6, 6, 5, 160};
        for (int what = 0; what < 6; what++) {
            due(d, most[what], "count", what);
        }
        d.put(5, 4, 1);
        due(d, 5, "count", 2);
        int[] laid = {3, 5, 0, 3, 2, 7};
        for (int what = 0; what < 6; what++) {
            asked(Edges::laid, laid[what], "count", what);
        }
    }

    private static void clock() {
        StalemateDinner d = laid();
        int[] minutes = {999, 0, 998, 1, 999, 999, 0, 0};
        int was = 5;
        for (int v : minutes) {
            due(d, was, "clock", v);
            due(d, v, "count", 1);
            was = v;
        }
    }

    private static void firstBytes() {
        for (int n = 1; n <= 5; n++) {
            due(bare(), n, "feed", n, 32, 32, 32, 32, 32);
            due(laid(), 7 + n, "feed", n, 32, 32, 32, 32, 32);
        }
        for (int n : beside(1, 5)) {
            refused(Edges::laid, BAD, "feed", n, 32, 32, 32, 32, 32);
        }
        // Of the rest none comes: the text ends behind the first n.
        for (int n = 1; n <= 5; n++) {
            StalemateDinner d = bare();
            int[] five = {n, 63, 63, 63, 63, 63};
            for (int i = 1; i <= n; i++) {
                five[i] = 32;
            }
            due(d, n, "feed", five);
            due(d, -100 - n, "text");
        }
    }

    private static void bytes() {
        for (int place = 1; place <= 5; place++) {
            for (int v : new int[] {0, 1, 254, 255}) {
                int[] five = {5, 32, 32, 32, 32, 32};
                five[place] = v;
                StalemateDinner d = bare();
                due(d, 5, "feed", five);
                // That one byte begins no token.
                due(d, -99 - place, "text");
            }
            for (int v : beside(0, 255)) {
                int[] five = {5, 32, 32, 32, 32, 32};
                five[place] = v;
                refused(Edges::laid, BAD, "feed", five);
            }
        }
    }

    private static void oneByOne() {
        StalemateDinner d = bare();
        due(d, 5, "feed", 5, 'd', 'a', 'r', 'e', 's');
        due(d, 6, "feed", 1, ' ', 'x', 'x', 'x', 'x');
        due(d, 8, "feed", 2, '4', '2', 'x', 'x', 'x');
        due(d, 11, "feed", 3, ';', 'e', 'a', 'x', 'x');
        due(d, 15, "feed", 4, 't', 's', ' ', '3', 'x');
        due(d, 20, "feed", 5, ';', 't', 'e', 'l', 'l');
        due(d, 24, "feed", 4, 's', ' ', '4', ';', 'x');
        due(d, 24, "count", 5);
        due(d, 1, "text");
        d.force(1);
        d.guest(0, 0, 0);
        int[] says = {42, 3, 4};
        for (int part = 0; part < 3; part++) {
            due(d, says[part], "asks", part, 0);
        }
    }

    private static void feedBad() {
        for (int n : beside(1, 5)) {
            refused(Edges::laid, BAD, "feed", n, 32, 32, 32, 32, 32);
            refused(Edges::bare, BAD, "feed", n, 0, 0, 0, 0, 0);
        }
        // Any of the five, also one that would not come.
        for (int n = 1; n <= 5; n++) {
            for (int place = 1; place <= 5; place++) {
                for (int v : new int[] {-1, 256}) {
                    int[] five = {n, 32, 32, 32, 32, 32};
                    five[place] = v;
                    refused(Edges::laid, BAD, "feed", five);
                }
            }
        }
        // Ahead of FULL.
        refused(() -> taped(160), BAD, "feed", 0, 32, 32, 32, 32, 32);
        refused(() -> taped(160), BAD, "feed", 6, 32, 32, 32, 32, 32);
        refused(() -> taped(160), BAD, "feed", 1, 32, 32, 32, 32, 256);
    }

    private static void feedFull() {
        for (int n = 1; n <= 5; n++) {
            int most = 160 - n;
            due(taped(most), 160, "feed", n, 32, 32, 32, 32, 32);
            refused(() -> taped(most + 1), FULL, "feed", n, 32, 32, 32, 32, 32);
            refused(() -> taped(160), FULL, "feed", n, 32, 32, 32, 32, 32);
        }
        // What is fed behind a refusal comes still.
        StalemateDinner d = taped(158);
        due(d, FULL, "feed", 3, 32, 32, 32, 32, 32);
        due(d, 160, "feed", 2, 32, 32, 32, 32, 32);
        due(d, 3, "text");
    }

    private static void text() {
        StalemateDinner d = taped(25);
        due(d, 3, "text");
        due(d, 0, "count", 5);
        due(d, 4, "count", 3);
        due(d, 2, "count", 4);
        due(d, 2, "force", 3);
        int[] says = {41, 7, -3};
        for (int part = 0; part < 3; part++) {
            due(d, says[part], "asks", part, 0);
        }
        Check.feed(d, "dares 1;");
        due(d, -108, "text");
        due(d, 0, "count", 5);
        due(d, 4, "count", 3);
        due("all the tape has room again", Check.feed(d, " ".repeat(160)), 160);
        d = bare();
        for (int t = 1; t < 6; t++) {
            due("text " + t, Check.text(d, "dares 1;eats 1;tells 1;"), t);
            due(d, 0, "count", 5);
        }
    }

    private static void textFault() {
        due(bare(), -100, "text");
        StalemateDinner d = bare();
        Check.feed(d, "x");
        due(d, -100, "text");
        due(d, -100, "text");
        for (int place : new int[] {1, 2, 158, 159}) {
            d = bare();
            Check.feed(d, " ".repeat(place) + "x");
            due(d, -100 - place, "text");
        }
        d = bare();
        Check.feed(d, " ".repeat(160));
        due(d, -260, "text");
        due(d, 1, "count", 3);
        due(d, 0, "count", 5);
    }

    private static void textFull() {
        StalemateDinner d = read();
        due(d, 6, "count", 3);
        // A tape with a fault, one without, and none: what is full comes ahead.
        refused(Edges::read, FULL, "text");
        refused(() -> {
            StalemateDinner empty = bare();
            for (int t = 1; t < 6; t++) {
                Check.text(empty, "dares 1;eats 1;tells 1;");
            }
            return empty;
        }, FULL, "text");
        Check.feed(d, ";eats 1;tells 1;");
        due(d, 23, "count", 5);
        due(d, FULL, "text");
        due(d, 23, "count", 5);
        due(d, 24, "feed", 1, 32, 32, 32, 32, 32);
        // The sixth text is the last one that comes.
        d = bare();
        for (int t = 1; t < 5; t++) {
            Check.text(d, "dares 1;eats 1;tells 1;");
        }
        due("text 5", Check.text(d, "dares 1;eats 1;tells 1;"), 5);
        due("text 6", Check.text(d, "dares 1;eats 1;tells 1;"), FULL);
    }

    private static void force() {
        StalemateDinner d = read();
        int[] laws = {0, 5, 0, 4, 4, 1, 5};
        int was = 2;
        for (int t : laws) {
            due(d, was, "force", t);
            due(d, t, "count", 4);
            was = t;
        }
        due(d, 5, "asks", 0, 0);
    }

    private static void forceBad() {
        refusedBeside(Edges::bare, BAD, 0, 0, "force");
        refusedBeside(Edges::laid, BAD, 0, 2, "force");
        refusedBeside(Edges::read, BAD, 0, 5, "force");
        due(laid(), 2, "force", 2);
        due(laid(), 2, "force", 0);
        due(bare(), 0, "force", 0);
    }

    private static void asks() {
        StalemateDinner d = with("dares shy+1;eats ate+1;tells bored+1;", one(50, 0, 97), one(10, 0, 0), one(29, 0, 99));
        for (int p = 0; p < 3; p++) {
            int[] says = {p == 0 ? 98 : p == 1 ? 1 : 99, 1, 1};
            for (int part = 0; part < 3; part++) {
                due(d, says[part], "asks", part, p);
            }
        }
        d.put(2, 3, 98);
        d.put(2, 2, 97);
        due(d, 99, "asks", 1, 2);
        due(d, 98, "asks", 2, 2);
        d.put(2, 3, 99);
        due(d, 99, "asks", 1, 2);
        asked(Edges::laid, 50, "asks", 0, 2);
        asked(Edges::laid, 1, "asks", 1, 0);
        asked(Edges::laid, 2, "asks", 2, 1);
    }

    private static void asksNone() {
        for (int part : beside(0, 2)) {
            refused(Edges::laid, -1000, "asks", part, 0);
            refused(Edges::full, -1000, "asks", part, 5);
        }
        for (int p : new int[] {-1, 3, MIN, MAX}) {
            refused(Edges::laid, -1000, "asks", 0, p);
            refused(Edges::laid, -1000, "asks", 2, p);
        }
        for (int p : beside(0, 5)) {
            refused(Edges::full, -1000, "asks", 2, p);
        }
        refused(Edges::bare, -1000, "asks", 0, 0);
        refused(Edges::laid, -1000, "asks", 3, 3);
        due(laid(), 2, "asks", 2, 2);
        due(full(), 2, "asks", 2, 5);
    }

    private static void guest() {
        int[][] guests = {{0, 0, 0}, {59, 1023, 99}, {9, 1, 98}, {10, 1022, 1}, {50, 512, 50}, {49, 511, 49}};
        StalemateDinner d = bare();
        for (int p = 0; p < 6; p++) {
            due(d, p, "guest", guests[p]);
            due(d, p + 1, "count", 0);
        }
        for (int p = 0; p < 6; p++) {
            int[] told = {guests[p][1], guests[p][2], 0, 0, 0, guests[p][0] / 10, guests[p][0] % 10};
            for (int what = 0; what < 7; what++) {
                due(d, told[what], "told", p, what);
            }
        }
    }

    private static void guestBad() {
        for (Scene scene : new Scene[] {Edges::laid, Edges::full, Edges::bare}) {
            for (int v : beside(0, 59)) {
                refused(scene, BAD, "guest", v, 0, 0);
            }
            for (int v : beside(0, 1023)) {
                refused(scene, BAD, "guest", 0, v, 0);
            }
            for (int v : beside(0, 99)) {
                refused(scene, BAD, "guest", 0, 0, v);
            }
        }
        due(laid(), 3, "guest", 59, 1023, 99);
        due(laid(), 3, "guest", 0, 0, 0);
    }

    private static void guestFull() {
        StalemateDinner d = laid();
        due(d, 3, "guest", 0, 0, 0);
        due(d, 4, "guest", 0, 0, 0);
        due(d, 5, "guest", 0, 0, 0);
        due(d, FULL, "guest", 0, 0, 0);
        due(d, FULL, "guest", 59, 1023, 99);
        due(d, 6, "count", 0);
        refused(Edges::full, FULL, "guest", 0, 0, 0);
        refused(Edges::full, FULL, "guest", 59, 1023, 99);
        // There is room again, when some have gone.
        d.back();
        due(d, 2, "guest", 0, 0, 0);
    }

    private static void put() {
        int[] most = {1023, 99, 99, 99, 1};
        int[][] was = {{6, 10, 7, 0, 0}, {1023, 70, 4, 8, 1}, {1022, 40, 0, 0, 0}};
        for (int p = 0; p < 3; p++) {
            for (int what = 0; what < 5; what++) {
                StalemateDinner d = laid();
                due(d, was[p][what], "put", p, what, most[what]);
                due(d, most[what], "put", p, what, most[what]);
                due(d, most[what], "put", p, what, 0);
                due(d, 0, "put", p, what, most[what] - 1);
                due(d, most[what] - 1, "told", p, what);
                for (int other = 0; other < 5; other++) {
                    if (other != what) {
                        due(d, was[p][other], "told", p, other);
                    }
                }
            }
        }
    }

    private static void putRefuses() {
        int[] most = {1023, 99, 99, 99, 1};
        for (int what = 0; what < 5; what++) {
            for (int v : beside(0, most[what])) {
                refused(Edges::laid, -7, "put", 0, what, v);
                refused(Edges::full, -7, "put", 5, what, v);
            }
        }
        for (int what : beside(0, 4)) {
            refused(Edges::laid, -7, "put", 0, what, 0);
            refused(Edges::laid, -7, "put", 0, what, 1);
        }
        refused(Edges::laid, -5, "put", 3, 5, -1);
        refused(Edges::laid, -5, "put", -1, 0, 1024);
    }

    private static void told() {
        int[][] is = {{6, 10, 7, 0, 0, 1, 3}, {1023, 70, 4, 8, 1, 2, 4}, {1022, 40, 0, 0, 0, 0, 0}};
        for (int p = 0; p < 3; p++) {
            for (int what = 0; what < 7; what++) {
                asked(Edges::laid, is[p][what], "told", p, what);
            }
        }
        StalemateDinner d = bare();
        d.guest(59, 1023, 99);
        int[] most = {1023, 99, 99, 99, 1};
        for (int what = 0; what < 5; what++) {
            d.put(0, what, most[what]);
            due(d, most[what], "told", 0, what);
        }
        due(d, 5, "told", 0, 5);
        due(d, 9, "told", 0, 6);
    }

    private static void toldNow() {
        StalemateDinner d = with("dares 99;eats 1;tells 1;", one(0, 0, 0), one(0, 511, 0), one(0, 1023, 0), one(50, 0, 0), one(10, 0, 0),
                one(0, 1, 0));
        int[][] now = {{0, 0, 1}, {9, 0, 2}, {-1, 1, 3}, {-1, 1, 4}, {1, 0, 5}, {1, 0, 0}};
        int[] danger = {0, 0};
        for (int p = 0; p < 6; p++) {
            for (int k = 0; k < 3; k++) {
                due(d, now[p][k], "told", p, 7 + k);
            }
            d.put(p, 4, 1);
            for (int k = 0; k < 2; k++) {
                due(d, danger[k], "told", p, 7 + k);
            }
            due(d, now[p][2], "told", p, 9);
        }
        d = with("dares 99;eats 1;tells 0;", one(0, 0, 0));
        due(d, 0, "told", 0, 9);
    }

    private static void toldRefuses() {
        for (int what : beside(0, 9)) {
            refused(Edges::laid, -7, "told", 2, what);
            refused(Edges::full, -7, "told", 5, what);
        }
        refused(Edges::laid, -5, "told", 3, 10);
        refused(Edges::laid, -5, "told", -1, -1);
        refused(Edges::bare, -5, "told", 0, -1);
    }

    private static void manners() {
        for (int danger = 0; danger < 2; danger++) {
            StalemateDinner d = with("dares 50;eats 9;tells 1;", one(0, 512 | 1, 50), one(25, 512 | 1, 51));
            d.put(0, 4, danger);
            d.put(1, 4, danger);
            for (int p = 0; p < 2; p++) {
                for (int a = 0; a < 10; a++) {
                    due(d, a == 0 || a == 9 ? 0 : 1, "manners", p, a, 0);
                    due(d, p == 0 ? 9 : 9 + a, "manners", p, a, 1);
                }
            }
        }
        asked(Edges::laid, 1, "manners", 0, 9, 0);
        asked(Edges::laid, 10, "manners", 1, 9, 1);
    }

    private static void mannersNoAct() {
        for (int a : beside(0, 9)) {
            refused(Edges::laid, -6, "manners", 0, a, 0);
            refused(Edges::laid, -6, "manners", 2, a, 1);
            refused(Edges::laid, -6, "manners", 2, a, 2);
            refused(Edges::laid, -5, "manners", 3, a, 0);
        }
    }

    private static void mannersRefuses() {
        for (int what : beside(0, 1)) {
            refused(Edges::laid, -7, "manners", 0, 0, what);
            refused(Edges::laid, -7, "manners", 2, 9, what);
            refused(Edges::laid, -6, "manners", 2, 10, what);
            refused(Edges::laid, -5, "manners", 3, 9, what);
            refused(Edges::laid, -5, "manners", 3, 10, what);
        }
    }

    private static void dinnerWho() {
        StalemateDinner d = bare();
        for (int p = 0; p < 6; p++) {
            d.guest(0, 1023, 0);
        }
        due(d, 63, "dinner", 0);
        due(d, 0, "dinner", 1);
        d.put(0, 0, 1022);
        d.put(5, 0, 511);
        due(d, 0b011110, "dinner", 0);
        d.put(0, 4, 1);
        d.put(1, 4, 1);
        due(d, 0b011100, "dinner", 0);
        due(d, 0b000011, "dinner", 1);
        for (int p = 0; p < 6; p++) {
            d.put(p, 4, 1);
        }
        due(d, 0, "dinner", 0);
        due(d, 63, "dinner", 1);
        asked(Edges::laid, 0, "dinner", 0);
        asked(Edges::laid, 2, "dinner", 1);
    }

    private static void dinnerActs() {
        asked(Edges::bare, 0, "dinner", 2);
        asked(Edges::bare, 1023, "dinner", 3);
        StalemateDinner d = with("dares 50;eats 1;tells 1;", one(0, 0, 50));
        due(d, 1023, "dinner", 2);
        due(d, 1023, "dinner", 3);
        d.put(0, 0, 1023);
        due(d, 0, "dinner", 2);
        due(d, 0, "dinner", 3);
        d.put(0, 0, 511);
        due(d, 512, "dinner", 2);
        due(d, 512, "dinner", 3);
        d.guest(0, 511, 50);
        due(d, 512, "dinner", 2);
        due(d, 512, "dinner", 3);
        d.put(1, 0, 1022);
        due(d, 512 | 1, "dinner", 2);
        due(d, 0, "dinner", 3);
        // In danger or not.
        d.put(0, 4, 1);
        d.put(1, 4, 1);
        due(d, 512 | 1, "dinner", 2);
        due(d, 0, "dinner", 3);
        d.put(0, 0, 1022);
        due(d, 1, "dinner", 3);
        d.put(0, 1, 51);
        due(d, 1, "dinner", 2);
        due(d, 0, "dinner", 3);
        asked(Edges::full, 0, "dinner", 3);
    }

    private static void dinnerAte() {
        StalemateDinner d = bare();
        due(d, 0, "dinner", 4);
        for (int p = 0; p < 6; p++) {
            d.guest(0, 0, 0);
            due(d, 99 * p, "dinner", 4);
            d.put(p, 3, 99);
        }
        due(d, 594, "dinner", 4);
        d.put(5, 3, 98);
        due(d, 593, "dinner", 4);
        asked(Edges::laid, 8, "dinner", 4);
    }

    private static void dinnerBad() {
        refusedBeside(Edges::laid, BAD, 0, 4, "dinner");
        refusedBeside(Edges::bare, BAD, 0, 4, "dinner");
        refusedBeside(Edges::full, BAD, 0, 4, "dinner");
    }
}
