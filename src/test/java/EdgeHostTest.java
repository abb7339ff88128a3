/** The edges of sheets: of the terms, and promises 35 to 39. */
public final class EdgeHostTest extends Edges {
    public static void main(String[] args) {
        of("terms", "SHEETS 0 .. 3 are rows of numbers, or missing (as all are at first):", EdgeHostTest::fourSheets);
        of("terms", "of sort 0 bytes, 1 shorts, 2 ints, 40 at most.", EdgeHostTest::sortsAndSizes);

        of("35", "A SHEET becomes a row of n of a sort, all 0, or missing (sort -1: n does not matter): 1.", EdgeHostTest::sheet);
        of("35", "BAD: SHEET, sort, n above 40;", EdgeHostTest::sheetBad);
        of("35", "-14.", EdgeHostTest::sheetBelow);
        of("36", "Number i of a SHEET becomes v (of bytes, shorts its lowest 8, 16 bits): 1.", EdgeHostTest::cell);
        of("36", "BAD: SHEET; -11; -12.", EdgeHostTest::cellRefuses);
        of("37", "n numbers of a SHEET, from i on, come to another one's (or its own) place j (as they were): n.", EdgeHostTest::copy);
        of("37", "BAD: SHEETS; -11; -13: unlike sorts;", EdgeHostTest::copyRefuses);
        of("37", "-12 (n below 0, too).", EdgeHostTest::copyOutside);
        of("38", "GUESTS by a SHEET of a sort: from a place on, three by three (as of guest()), n of them (0 .. 6):",
                EdgeHostTest::guestsBy);
        of("38", "how many came (others are left out).", EdgeHostTest::guestsLeftOut);
        of("38", "BAD: SHEET, sort, n; -11; -13;", EdgeHostTest::guestsByRefuses);
        of("38", "-12: what stood ahead came.", EdgeHostTest::guestsByOutside);
        of("39", "What lies at place i: 0 .. 5 GUESTS, 6 .. 11 whether they are in DANGER,", EdgeHostTest::takenPlaces);
        of("39", "taken for 0 .. 5 one of that KIND (also of one that is one): the number; 6 DANGER: 1, 0.", EdgeHostTest::takenKinds);
        of("39", "BAD: kind; -12: i; -11: none such; -13.", EdgeHostTest::takenRefuses);
        Check.end();
    }

    private static void fourSheets() {
        for (int s = 0; s <= 3; s++) {
            asked(Edges::bare, -11, "judge", s);
            asked(Edges::bare, -11, "cell", s, 0, 0);
            asked(Edges::bare, -11, "copy", s, 0, s, 0, 0);
            StalemateDinner d = bare();
            due(d, 1, "sheet", s, 0, 1);
            for (int other = 0; other <= 3; other++) {
                due(d, other == s ? 1 : -11, "cell", other, 0, 5);
            }
        }
        for (int s : beside(0, 3)) {
            refused(Edges::laid, BAD, "sheet", s, 0, 1);
            refused(Edges::laid, BAD, "cell", s, 0, 1);
            refused(Edges::laid, BAD, "copy", s, 0, 0, 0, 1);
            refused(Edges::laid, BAD, "copy", 0, 0, s, 0, 1);
            refused(Edges::laid, BAD, "guestsBy", s, 0, 0, 1);
            refused(Edges::laid, BAD, "judge", s);
            refused(Edges::laid, BAD, "film", s, 1);
        }
    }

    private static void sortsAndSizes() {
        for (int sort = 0; sort < 3; sort++) {
            for (int n : new int[] {0, 1, 39, 40}) {
                StalemateDinner d = laid();
                due(d, 1, "sheet", 3, sort, n);
                for (int other = 0; other < 3; other++) {
                    due(d, other == sort ? 0 : -13, "guestsBy", 3, other, 0, 0);
                }
                due(d, -12, "cell", 3, n, 0);
                due(d, n == 0 ? -12 : 1, "cell", 3, n - 1, 0);
                due(d, n, "copy", 3, 0, 3, 0, n);
                due(d, -12, "copy", 3, 0, 3, 0, n + 1);
            }
            refused(Edges::laid, BAD, "sheet", 3, sort, 41);
            refused(Edges::laid, -14, "sheet", 3, sort, -1);
        }
    }

    private static void sheet() {
        for (int sort = 0; sort < 3; sort++) {
            // A row that was something else is all 0.
            StalemateDinner d = bare();
            Check.sheet(d, 0, sort, 1, 2, 3, 4, 5, 6);
            due(d, 1, "sheet", 0, sort, 6);
            for (int i = 0; i < 6; i++) {
                due(d, -1, "judge", 0);
                due(d, 1, "cell", 0, i, 7);
                due(d, i, "judge", 0);
                due(d, 1, "cell", 0, i, 0);
            }
            // Also what lay beyond a shorter one.
            Check.sheet(d, 0, sort, 1, 2, 3, 4, 5, 6);
            d.sheet(0, sort, 2);
            d.sheet(0, sort, 20);
            due(d, -1, "judge", 0);
            // All forty of them.
            int[] full = new int[40];
            java.util.Arrays.fill(full, 99);
            Check.sheet(d, 0, sort, full);
            d.sheet(0, sort, 40);
            d.sheet(1, sort, 20);
            due(d, 20, "copy", 0, 20, 1, 0, 20);
            due(d, -1, "judge", 1);
            // Missing, and once more.
            for (int n : new int[] {0, 1, 40, 41, -1, MIN, MAX}) {
                due(d, 1, "sheet", 0, -1, n);
                due(d, -11, "cell", 0, 0, 0);
                due(d, -11, "judge", 0);
                due(d, 1, "sheet", 0, -1, n);
                d.sheet(0, sort, 3);
            }
        }
    }

    private static void sheetBad() {
        for (int s : beside(0, 3)) {
            for (int sort = -1; sort < 3; sort++) {
                refused(Edges::laid, BAD, "sheet", s, sort, 1);
                refused(Edges::laid, BAD, "sheet", s, sort, -1);
            }
        }
        for (int sort : beside(-1, 2)) {
            for (int n : new int[] {0, 40, 41, -1}) {
                refused(Edges::laid, BAD, "sheet", 0, sort, n);
                refused(Edges::laid, BAD, "sheet", 3, sort, n);
            }
        }
        for (int sort = 0; sort < 3; sort++) {
            for (int n : new int[] {41, 42, MAX}) {
                refused(Edges::laid, BAD, "sheet", 0, sort, n);
                refused(Edges::laid, BAD, "sheet", 3, sort, n);
            }
            due(laid(), 1, "sheet", 3, sort, 40);
        }
        due(laid(), 1, "sheet", 0, -1, 41);
    }

    private static void sheetBelow() {
        for (int sort = 0; sort < 3; sort++) {
            for (int n : new int[] {-1, -2, MIN}) {
                refused(Edges::laid, -14, "sheet", 0, sort, n);
                refused(Edges::laid, -14, "sheet", 3, sort, n);
            }
            due(laid(), 1, "sheet", 0, sort, 0);
        }
        due(laid(), 1, "sheet", 0, -1, -1);
        refused(Edges::laid, BAD, "sheet", 4, 0, -1);
        refused(Edges::laid, BAD, "sheet", 0, 3, -1);
        refused(Edges::laid, BAD, "sheet", 0, -2, -1);
    }

    /** What a number is in a sheet of a sort, seen by the guest for whom it is WRONG; -1: by no guest. */
    private static long kept(int sort, int v) {
        StalemateDinner d = bare();
        d.sheet(0, sort, 3);
        d.cell(0, 1, v);
        return d.guestsBy(0, sort, 0, 1) == 1 ? d.told(0, 0) : -1;
    }

    private static void cell() {
        int[][] bytes = {{0, 0}, {127, 127}, {128, -1}, {255, -1}, {256, 0}, {257, 1}, {383, 127}, {384, -1}, {-1, -1}, {-128, -1},
            {-129, 127}, {-255, 1}, {-256, 0}, {1023, -1}, {65536 + 100, 100}, {MAX, -1}, {MIN, 0}, {MIN + 127, 127}};
        for (int[] row : bytes) {
            due("a byte " + row[0], kept(0, row[0]), row[1]);
        }
        int[][] shorts = {{0, 0}, {127, 127}, {128, 128}, {255, 255}, {256, 256}, {1023, 1023}, {1024, -1}, {32767, -1}, {32768, -1},
            {65535, -1}, {65536, 0}, {65536 + 1023, 1023}, {65536 + 1024, -1}, {-1, -1}, {-65536, 0}, {-65536 + 1023, 1023},
            {-64513, 1023}, {MAX, -1}, {MIN, 0}, {MIN + 1023, 1023}};
        for (int[] row : shorts) {
            due("a short " + row[0], kept(1, row[0]), row[1]);
        }
        int[][] ints = {{0, 0}, {255, 255}, {256, 256}, {1023, 1023}, {1024, -1}, {65536, -1}, {65536 + 1023, -1}, {-65536, -1}, {-1, -1},
            {MAX, -1}, {MIN, -1}, {MIN + 1023, -1}};
        for (int[] row : ints) {
            due("an int " + row[0], kept(2, row[0]), row[1]);
        }
        // The first and the last place, and no other one.
        for (int n : new int[] {1, 2, 40}) {
            StalemateDinner d = bare();
            d.sheet(0, 2, n);
            d.sheet(1, 2, 20);
            due(d, 1, "cell", 0, 0, 9);
            due(d, 1, "cell", 0, n - 1, 8);
            due(d, 1, "copy", 0, n - 1, 1, 0, 1);
            due(d, 0, "judge", 1);
            due(d, 1, "cell", 1, 0, 0);
            due(d, -1, "judge", 1);
        }
    }

    private static void cellRefuses() {
        for (int s : beside(0, 3)) {
            refused(Edges::laid, BAD, "cell", s, 0, 1);
            refused(Edges::laid, BAD, "cell", s, -1, 1);
        }
        for (int i : new int[] {-1, 0, 40, MIN, MAX}) {
            refused(Edges::laid, -11, "cell", 3, i, 1);
        }
        for (int s = 0; s < 3; s++) {
            for (int i : new int[] {-1, 9, 10, 40, MIN, MAX}) {
                refused(Edges::laid, -12, "cell", s, i, 1);
            }
            due(laid(), 1, "cell", s, 8, 1);
            due(laid(), 1, "cell", s, 0, 1);
        }
        StalemateDinner d = bare();
        d.sheet(0, 0, 0);
        due(d, -12, "cell", 0, 0, 1);
        d.sheet(0, 0, 40);
        due(d, 1, "cell", 0, 39, 1);
        due(d, -12, "cell", 0, 40, 1);
    }

    /** The six guests' numbers that a sheet of 18 tells. */
    private static void holds(StalemateDinner d, int s, int sort, int... numbers) {
        d.back();
        due(d, numbers.length / 3, "guestsBy", s, sort, 0, numbers.length / 3);
        for (int i = 0; i + 2 < numbers.length; i += 3) {
            due(d, numbers[i], "told", i / 3, 6);
            due(d, numbers[i + 1], "told", i / 3, 0);
            due(d, numbers[i + 2], "told", i / 3, 1);
        }
    }

    private static void copy() {
        for (int sort = 0; sort < 3; sort++) {
            StalemateDinner d = bare();
            d.image();
            Check.sheet(d, 0, sort, 1, 2, 3, 4, 5, 6);
            Check.sheet(d, 1, sort, 0, 0, 0, 0, 0, 0);
            due(d, 6, "copy", 0, 0, 1, 0, 6);
            holds(d, 1, sort, 1, 2, 3, 4, 5, 6);
            due(d, 1, "copy", 0, 5, 1, 0, 1);
            due(d, 1, "copy", 0, 0, 1, 5, 1);
            holds(d, 1, sort, 6, 2, 3, 4, 5, 1);
            holds(d, 0, sort, 1, 2, 3, 4, 5, 6);
            for (int i = 0; i <= 6; i++) {
                due(d, 0, "copy", 0, i, 1, 6 - i, 0);
            }
            holds(d, 1, sort, 6, 2, 3, 4, 5, 1);
            // Its own, both ways: as they were.
            due(d, 5, "copy", 0, 0, 0, 1, 5);
            holds(d, 0, sort, 1, 1, 2, 3, 4, 5);
            due(d, 5, "copy", 0, 1, 0, 0, 5);
            holds(d, 0, sort, 1, 2, 3, 4, 5, 5);
            due(d, 6, "copy", 0, 0, 0, 0, 6);
            holds(d, 0, sort, 1, 2, 3, 4, 5, 5);
            due(d, 4, "copy", 0, 0, 0, 2, 4);
            holds(d, 0, sort, 1, 2, 1, 2, 3, 4);
        }
        // All forty.
        StalemateDinner d = bare();
        d.sheet(2, 2, 40);
        d.sheet(3, 2, 40);
        d.cell(2, 0, 5);
        d.cell(2, 39, 5);
        due(d, 40, "copy", 2, 0, 3, 0, 40);
        d.sheet(2, 2, 20);
        due(d, 1, "copy", 3, 39, 2, 19, 1);
        due(d, 19, "judge", 2);
        due(d, 1, "copy", 3, 0, 2, 0, 1);
        due(d, 0, "judge", 2);
    }

    private static void copyRefuses() {
        for (int s : beside(0, 3)) {
            refused(Edges::laid, BAD, "copy", s, 0, 0, 0, 1);
            refused(Edges::laid, BAD, "copy", 0, 0, s, 0, 1);
            refused(Edges::laid, BAD, "copy", s, 0, s, 0, 1);
            refused(Edges::laid, BAD, "copy", 3, 0, s, 0, 1);
            refused(Edges::laid, BAD, "copy", s, 0, 3, 0, 1);
            refused(Edges::laid, BAD, "copy", s, -1, 0, -1, -1);
        }
        int[][] missing = {{3, 0, 0, 0, 1}, {0, 0, 3, 0, 1}, {3, 0, 3, 0, 1}, {3, 0, 3, 0, 0}, {3, -1, 0, -1, -1}, {0, 99, 3, 99, 99}};
        for (int[] row : missing) {
            refused(Edges::laid, -11, "copy", row);
        }
        for (int s = 0; s < 3; s++) {
            for (int other = 0; other < 3; other++) {
                if (s != other) {
                    refused(Edges::laid, -13, "copy", s, 0, other, 0, 1);
                    refused(Edges::laid, -13, "copy", s, 0, other, 0, 0);
                    refused(Edges::laid, -13, "copy", s, -1, other, 10, -1);
                } else {
                    due(laid(), 1, "copy", s, 0, other, 0, 1);
                }
            }
        }
    }

    /** As it was laid, but the last sheet tells six bytes, as the first one nine. */
    private static StalemateDinner twoOfBytes() {
        StalemateDinner d = laid();
        Check.sheet(d, 3, 0, 21, 22, 23, 24, 25, 26);
        return d;
    }

    private static void copyOutside() {
        int[][] outside = {{0, 0, 3, 0, 7}, {0, 0, 3, 1, 6}, {0, 0, 3, 6, 1}, {0, 4, 3, 0, 6}, {0, 9, 3, 0, 1}, {0, -1, 3, 0, 1},
            {0, 0, 3, -1, 1}, {0, 0, 3, 0, -1}, {0, 10, 3, 0, 0}, {0, 0, 3, 7, 0}, {0, -1, 3, 0, 0}, {0, 0, 3, -1, 0}, {3, 0, 0, 0, 7},
            {3, 1, 0, 0, 6}, {3, 0, 0, 4, 6}, {3, 6, 0, 0, 1}, {3, 0, 0, 9, 1}, {0, MAX, 3, 0, 1}, {0, 0, 3, MAX, 1}, {0, 0, 3, 0, MAX},
            {0, MAX, 3, MAX, MAX}, {0, MIN, 3, 0, 1}, {0, 0, 3, MIN, 1}, {0, 0, 3, 0, MIN}, {0, MIN, 3, MIN, MIN}, {0, 1, 3, 1, MAX},
            {0, 5, 3, 5, MIN}, {0, MAX, 3, 0, 0}, {0, 0, 3, MIN, 0}, {0, 0, 0, 1, 9}, {0, 1, 0, 0, 9}, {0, 0, 0, 0, 10}};
        for (int[] row : outside) {
            refused(EdgeHostTest::twoOfBytes, -12, "copy", row);
        }
        int[][] inside = {{0, 0, 3, 0, 6}, {0, 3, 3, 0, 6}, {0, 0, 3, 5, 1}, {0, 8, 3, 0, 1}, {0, 9, 3, 6, 0}, {0, 0, 3, 0, 0}, {3, 0, 0, 3, 6},
            {3, 5, 0, 8, 1}, {3, 6, 0, 9, 0}, {0, 0, 0, 1, 8}, {0, 1, 0, 0, 8}, {0, 0, 0, 0, 9}};
        for (int[] row : inside) {
            due(twoOfBytes(), row[4], "copy", row);
        }
    }

    private static void guestsBy() {
        for (int sort = 0; sort < 3; sort++) {
            int[] numbers = new int[20];
            for (int i = 0; i < 20; i++) {
                numbers[i] = i + 1;
            }
            for (int n = 0; n <= 6; n++) {
                for (int from = 0; from <= 2; from++) {
                    StalemateDinner d = bare();
                    Check.sheet(d, 0, sort, numbers);
                    due(d, n, "guestsBy", 0, sort, from, n);
                    due(d, n, "count", 0);
                    for (int p = 0; p < n; p++) {
                        int first = from + 3 * p + 1;
                        due(d, first / 10, "told", p, 5);
                        due(d, first % 10, "told", p, 6);
                        due(d, first + 1, "told", p, 0);
                        due(d, first + 2, "told", p, 1);
                    }
                }
            }
            for (int n : beside(0, 6)) {
                refused(Edges::laid, BAD, "guestsBy", sort, sort, 0, n);
            }
        }
        // The last three of forty.
        StalemateDinner d = bare();
        d.sheet(0, 2, 40);
        d.cell(0, 37, 59);
        d.cell(0, 38, 1023);
        d.cell(0, 39, 99);
        due(d, 1, "guestsBy", 0, 2, 37, 1);
        int[] is = {1023, 99, 0, 0, 0, 5, 9};
        for (int what = 0; what < 7; what++) {
            due(d, is[what], "told", 0, what);
        }
    }

    private static void guestsLeftOut() {
        // Each number at its last good value and at the first that isn't, amid two good ones.
        int[][] threes = {{0, 0, 0, 1}, {59, 1023, 99, 1}, {60, 0, 0, 0}, {-1, 0, 0, 0}, {0, 1024, 0, 0}, {0, -1, 0, 0}, {0, 0, 100, 0},
            {0, 0, -1, 0}, {MAX, MAX, MAX, 0}, {MIN, MIN, MIN, 0}};
        for (int[] three : threes) {
            StalemateDinner d = bare();
            Check.sheet(d, 0, 2, 11, 1, 1, three[0], three[1], three[2], 22, 2, 2);
            due(d, 2 + three[3], "guestsBy", 0, 2, 0, 3);
            due(d, 2 + three[3], "count", 0);
            due(d, 1, "told", 0, 5);
            due(d, 2, "told", 1 + three[3], 5);
        }
        // For whom there is no room.
        for (int seats = 0; seats <= 6; seats++) {
            StalemateDinner d = bare();
            for (int p = 0; p < seats; p++) {
                d.guest(0, 0, 0);
            }
            d.sheet(0, 0, 18);
            due(d, 6 - seats, "guestsBy", 0, 0, 0, 6);
            due(d, 6, "count", 0);
            due(d, 0, "guestsBy", 0, 0, 0, 6);
            due(d, 0, "guestsBy", 0, 0, 0, 0);
        }
        // None came, as none could: that is 0, too.
        StalemateDinner d = bare();
        Check.sheet(d, 0, 0, 60, 0, 0, 0, 0, 100);
        due(d, 0, "guestsBy", 0, 0, 0, 2);
    }

    private static void guestsByRefuses() {
        for (int s : beside(0, 3)) {
            refused(Edges::laid, BAD, "guestsBy", s, 0, 0, 1);
            refused(Edges::laid, BAD, "guestsBy", s, 0, -1, 0);
        }
        for (int sort : new int[] {-1, 3, MIN, MAX}) {
            for (int s = 0; s < 4; s++) {
                refused(Edges::laid, BAD, "guestsBy", s, sort, 0, 1);
            }
        }
        for (int n : beside(0, 6)) {
            for (int s = 0; s < 4; s++) {
                refused(Edges::laid, BAD, "guestsBy", s, 0, 0, n);
                refused(Edges::laid, BAD, "guestsBy", s, 0, 9, n);
            }
        }
        for (int sort = 0; sort < 3; sort++) {
            refused(Edges::laid, -11, "guestsBy", 3, sort, 0, 1);
            refused(Edges::laid, -11, "guestsBy", 3, sort, -1, 6);
            refused(Edges::laid, -11, "guestsBy", 3, sort, 0, 0);
            for (int s = 0; s < 3; s++) {
                if (s != sort) {
                    refused(Edges::laid, -13, "guestsBy", s, sort, 0, 1);
                    refused(Edges::laid, -13, "guestsBy", s, sort, -1, 6);
                    refused(Edges::laid, -13, "guestsBy", s, sort, 0, 0);
                }
            }
        }
    }

    private static void guestsByOutside() {
        for (int from : new int[] {-1, -2, -3, 7, 8, 9, 10, 40, MIN, MAX, MAX - 2, MAX - 17}) {
            refused(Edges::laid, -12, "guestsBy", 2, 2, from, 1);
            refused(Edges::laid, -12, "guestsBy", 2, 2, from, 6);
            refused(Edges::full, -12, "guestsBy", 2, 2, from, 1);
        }
        // Of nine numbers three guests, and no fourth.
        for (int from = 0; from <= 9; from++) {
            int there = (9 - from) / 3;
            for (int n = 1; n <= 6; n++) {
                StalemateDinner d = bare();
                Check.sheet(d, 2, 2, 21, 22, 23, 24, 25, 26, 27, 28, 29);
                due(d, n <= there ? n : -12, "guestsBy", 2, 2, from, n);
                due(d, Math.min(n, there), "count", 0);
            }
        }
        // Rows that are too short for one.
        for (int size = 0; size <= 3; size++) {
            StalemateDinner d = bare();
            d.sheet(0, 1, size);
            due(d, size == 3 ? 1 : -12, "guestsBy", 0, 1, 0, 1);
            due(d, size == 3 ? 1 : 0, "count", 0);
        }
        // Who is left out stands ahead as well: one came, one is left out, then a place is outside.
        StalemateDinner d = bare();
        Check.sheet(d, 0, 0, 1, 1, 1, 60, 0, 0, 0);
        due(d, -12, "guestsBy", 0, 0, 0, 3);
        due(d, 1, "count", 0);
        // All forty: thirteen guests, and one number.
        d.sheet(0, 0, 40);
        due(d, 1, "guestsBy", 0, 0, 37, 1);
        due(d, -12, "guestsBy", 0, 0, 38, 1);
        due(d, -12, "guestsBy", 0, 0, 37, 2);
        due(d, 3, "count", 0);
    }

    private static void takenPlaces() {
        StalemateDinner d = bare();
        for (int p = 0; p < 6; p++) {
            due(d, -11, "taken", p, 0);
            due(d, -11, "taken", 6 + p, 6);
            d.guest(0, 0, 0);
            due(d, p, "taken", p, 0);
            due(d, 0, "taken", 6 + p, 6);
            d.put(p, 4, 1);
            due(d, p, "taken", p, 0);
            due(d, 1, "taken", 6 + p, 6);
        }
        for (int i : beside(0, 11)) {
            refused(Edges::full, -12, "taken", i, 0);
            refused(Edges::full, -12, "taken", i, 6);
            refused(Edges::bare, -12, "taken", i, 0);
        }
        asked(Edges::laid, 1, "taken", 7, 6);
        asked(Edges::laid, 0, "taken", 8, 6);
        asked(Edges::laid, 2, "taken", 2, 0);
    }

    private static void takenKinds() {
        // Of which KIND a guest of each KIND is one.
        int[][] is = {{0}, {0, 1}, {0, 2}, {0, 1, 3}, {0, 2, 4}, {0, 5}};
        StalemateDinner d = bare();
        for (int kind = 0; kind < 6; kind++) {
            d.guest(10 * kind, 0, 0);
        }
        for (int p = 0; p < 6; p++) {
            for (int kind = 0; kind < 6; kind++) {
                boolean one = false;
                for (int k : is[p]) {
                    one |= k == kind;
                }
                due(d, one ? p : -13, "taken", p, kind);
                due(d, -13, "taken", 6 + p, kind);
            }
            due(d, -13, "taken", p, 6);
            due(d, 0, "taken", 6 + p, 6);
        }
        for (int kind : beside(0, 6)) {
            refused(Edges::full, BAD, "taken", 0, kind);
            refused(Edges::full, BAD, "taken", 11, kind);
        }
    }

    private static void takenRefuses() {
        for (int kind : beside(0, 6)) {
            for (int i : new int[] {-1, 0, 3, 6, 12}) {
                refused(Edges::laid, BAD, "taken", i, kind);
            }
        }
        for (int i : beside(0, 11)) {
            for (int kind = 0; kind <= 6; kind++) {
                refused(Edges::laid, -12, "taken", i, kind);
            }
        }
        // Three are there: what would be of another kind is none such, too.
        for (int i : new int[] {3, 4, 5, 9, 10, 11}) {
            for (int kind = 0; kind <= 6; kind++) {
                refused(Edges::laid, -11, "taken", i, kind);
            }
        }
        for (int kind = 0; kind <= 6; kind++) {
            refused(Edges::bare, -11, "taken", 0, kind);
            refused(Edges::bare, -11, "taken", 6, kind);
        }
        refused(Edges::laid, -13, "taken", 2, 6);
        refused(Edges::laid, -13, "taken", 2, 1);
        refused(Edges::laid, -13, "taken", 8, 0);
        refused(Edges::laid, -13, "taken", 8, 5);
    }
}
