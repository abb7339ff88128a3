/** The edges of promises 24 to 30: told minutes. */
public final class EdgeToldTest extends Edges {
    public static void main(String[] args) {
        of("24", "A SHEET tells how many do an ACT in the 1st, 2nd, .. MINUTE from now (20 at most):", EdgeToldTest::judgeTwenty);
        of("24", "the first number (from 0) that is otherwise; -1: none.", EdgeToldTest::judgeFirst);
        of("24", "BAD: SHEET; -11; BAD: it tells more than 20.", () -> tale("judge"));
        of("25", "KINDS (sort 0; bits 0 .. 5),", EdgeToldTest::kinds);
        of("25", "MORE (1; bits 0 .. 9) of one by which, were they one's, that would be -1.", EdgeToldTest::mores);
        of("25", "BAD, -11, BAD likewise;", () -> tale("kinds", 0, 0));
        of("25", "-5: none such;", () -> noneSuch("kinds", 0));
        of("25", "-7: sort.", EdgeToldTest::kindsSort);
        of("26", "ACTS (bits) such that, were just that one WRONG for one now, if it isn't, or not, if it is, that would be -1.",
                EdgeToldTest::turned);
        of("26", "BAD, -11, BAD likewise;", () -> tale("turned", 0));
        of("26", "-5: none such.", () -> noneSuch("turned"));
        of("27", "SHY (sort 1), BORED (2; 0 .. 99 each) of one by which, were it so now, that would be -1:", EdgeToldTest::states);
        of("27", "how many (what 0), the least (1; -1: none).", EdgeToldTest::statesLeast);
        of("27", "BAD, -11, BAD likewise;", () -> tale("states", 0, 1, 0));
        of("27", "-5: none such;", () -> noneSuch("states", 1, 0));
        of("27", "-7: sort, what.", EdgeToldTest::statesSortWhat);
        of("28", "GUESTS (bits) such that, were just that one in DANGER now, who isn't, or not, who is, that would be -1.",
                EdgeToldTest::feared);
        of("28", "BAD, -11, BAD likewise.", () -> tale("feared"));
        of("29", "TEXTS (bits), were they THE LAW, by which that would be -1.", EdgeToldTest::laws);
        of("29", "BAD, -11, BAD likewise.", () -> tale("laws"));
        of("30", "A SHEET truly becomes how many do an ACT in the 1st, .., nth MINUTE (0 .. 20; bytes): n.", EdgeToldTest::film);
        of("30", "BAD: SHEET;", EdgeToldTest::filmSheet);
        of("30", "-7: n.", EdgeToldTest::filmN);
        Check.end();
    }

    private static int[] behind(int first, int... further) {
        int[] all = new int[1 + further.length];
        all[0] = first;
        System.arraycopy(further, 0, all, 1, further.length);
        return all;
    }

    /** What a sheet that can't tell minutes is answered, whatever else is asked for; twenty numbers can be told. */
    private static void tale(String name, int... further) {
        int[] bad = new int[further.length];
        java.util.Arrays.fill(bad, -1);
        for (int[] rest : new int[][] {further, bad}) {
            for (int s : beside(0, 3)) {
                refused(Edges::tales, BAD, name, behind(s, rest));
                refused(Edges::bare, BAD, name, behind(s, rest));
            }
            refused(Edges::tales, -11, name, behind(3, rest));
            refused(Edges::bare, -11, name, behind(0, rest));
            refused(Edges::tales, BAD, name, behind(1, rest));
            for (int sort = 0; sort < 3; sort++) {
                for (int n : new int[] {21, 22, 40}) {
                    int ofSort = sort;
                    refused(() -> {
                        StalemateDinner d = laid();
                        d.sheet(3, ofSort, n);
                        return d;
                    }, BAD, name, behind(3, rest));
                }
            }
        }
        for (int n = 19; n <= 20; n++) {
            for (int sort = 0; sort < 3; sort++) {
                StalemateDinner d = laid();
                d.sheet(3, sort, n);
                due(name + " of " + n + " is answered", call(d, name, behind(3, further)) >= -1 ? 1 : 0, 1);
            }
        }
    }

    /** Nobody such, by a good sheet; a bad sheet comes ahead of that, and it ahead of the rest. */
    private static void noneSuch(String name, int... further) {
        int[] bad = new int[further.length];
        java.util.Arrays.fill(bad, 9);
        for (int[] rest : new int[][] {further, bad}) {
            for (int p : new int[] {-1, 3, 6, MIN, MAX}) {
                refused(Edges::tales, -5, name, behind(0, behind(p, rest)));
                refused(Edges::tales, BAD, name, behind(1, behind(p, rest)));
                refused(Edges::tales, -11, name, behind(3, behind(p, rest)));
                refused(Edges::tales, BAD, name, behind(4, behind(p, rest)));
            }
            for (int p : beside(0, 5)) {
                refused(Edges::full, -5, name, behind(0, behind(p, rest)));
            }
        }
        due(name + " of the last one is answered", call(full(), name, behind(0, behind(5, further))) >= -1 ? 1 : 0, 1);
    }

    /** A cook who does ACT 0 each minute, and a sheet of n numbers that tell so. */
    private static StalemateDinner cook(int n) {
        StalemateDinner d = with("dares 99;eats 1;tells 0;", one(40, 0, 0));
        int[] ones = new int[n];
        java.util.Arrays.fill(ones, 1);
        Check.sheet(d, 0, 2, ones);
        return d;
    }

    private static void judgeTwenty() {
        for (int n : new int[] {0, 1, 19, 20}) {
            asked(() -> cook(n), -1, "judge", 0);
        }
        refused(() -> cook(21), BAD, "judge", 0);
        // All six do in each of twenty minutes, from now on.
        StalemateDinner d = with("dares 99;eats 1;tells 0;", one(40, 0, 0), one(40, 0, 0), one(40, 0, 0), one(40, 0, 0), one(40, 0, 0),
                one(40, 0, 0));
        int[] sixes = new int[20];
        java.util.Arrays.fill(sixes, 6);
        Check.sheet(d, 3, 0, sixes);
        due(d, -1, "judge", 3);
        d = with("dares 99*(minute<3);eats 1;tells 0;", one(20, 1023, 1));
        Check.sheet(d, 0, 0, 1, 1, 1, 0);
        due(d, -1, "judge", 0);
        due(d, 1, "minute");
        due(d, 2, "judge", 0);
    }

    private static void judgeFirst() {
        for (int at = 0; at < 20; at++) {
            for (int v : new int[] {0, 2, -1, 257, MIN, MAX}) {
                StalemateDinner d = cook(20);
                d.cell(0, at, v);
                due(d, at, "judge", 0);
                d.cell(0, 19, 0);
                due(d, at, "judge", 0);
                d.cell(0, 0, 0);
                due(d, 0, "judge", 0);
            }
        }
        StalemateDinner d = bare();
        d.sheet(0, 0, 0);
        due(d, -1, "judge", 0);
        d.sheet(0, 0, 1);
        due(d, -1, "judge", 0);
        d.cell(0, 0, 1);
        due(d, 0, "judge", 0);
        // Of bytes and shorts what is left of a number is told.
        d.cell(0, 0, 256);
        due(d, -1, "judge", 0);
    }

    private static Scene told(String law, int[] guest, int... numbers) {
        return () -> {
            StalemateDinner d = with(law, guest);
            Check.sheet(d, 0, 0, numbers);
            return d;
        };
    }

    private static void kinds() {
        String law = "dares 99;eats 1;tells 0;";
        // MORE 0, ACT 0 alone isn't wrong: a guest acts once; bred, widow never; hungry, candle, cook always.
        asked(told(law, one(0, 1022, 0), 1, 0), 0b000001, "kinds", 0, 0, 0);
        asked(told(law, one(50, 1022, 0), 0, 0), 0b100010, "kinds", 0, 0, 0);
        asked(told(law, one(0, 1022, 0)), 63, "kinds", 0, 0, 0);
        asked(told(law, one(50, 0, 0), 7), 0, "kinds", 0, 0, 0);
        asked(told("dares 0;eats 1;tells 0;", one(0, 1023, 1), 0, 0), 0b100111, "kinds", 0, 0, 0);
        asked(told("dares 0;eats 1;tells 0;", one(1, 1023, 1), 0, 1), 0b010000, "kinds", 0, 0, 0);
        asked(() -> {
            StalemateDinner d = bare();
            for (int p = 0; p < 6; p++) {
                d.guest(50, 0, 0);
            }
            Check.sheet(d, 0, 0, 0);
            return d;
        }, 0b100000, "kinds", 0, 5, 0);
    }

    private static void mores() {
        // A cook who is stuck as long as MINUTE is below MORE.
        for (int more = 0; more <= 9; more++) {
            int[] numbers = new int[more + 1];
            numbers[more] = 1;
            asked(told("dares 0;eats 1;tells 0;", one(45, 1023, 1), numbers), 1 << more, "kinds", 0, 0, 1);
            asked(told("dares 0;eats 1;tells 0;", one(45, 1023, 1), new int[more]), 1023 & -(1 << more), "kinds", 0, 0, 1);
        }
        asked(told("dares 0;eats 1;tells 0;", one(45, 1023, 1), new int[10]), 0, "kinds", 0, 0, 1);
        asked(told("dares 0;eats 1;tells 0;", one(9, 1023, 1), new int[10]), 1023, "kinds", 0, 0, 1);
    }

    private static void kindsSort() {
        for (int sort : beside(0, 1)) {
            refused(Edges::tales, -7, "kinds", 0, 2, sort);
            refused(Edges::full, -7, "kinds", 0, 5, sort);
            refused(Edges::tales, -5, "kinds", 0, 3, sort);
            refused(Edges::tales, BAD, "kinds", 1, 0, sort);
            refused(Edges::tales, -11, "kinds", 3, 0, sort);
        }
    }

    private static void turned() {
        // A hungry one who dares what was eaten: by ACT a, who eats a, alone or again.
        String law = "dares ate;eats 0;tells 0;";
        for (int shyness = 1; shyness <= 9; shyness++) {
            int dares = 1023 & -(1 << shyness);
            asked(told(law, one(20, 1023, shyness), 1, 1), dares, "turned", 0, 0);
            asked(told(law, one(20, 1023, shyness), 1, 0), 1023 - dares, "turned", 0, 0);
        }
        // Were it WRONG, if it isn't: the only one that is right.
        for (int a = 0; a < 10; a++) {
            asked(told("dares 99;eats 1;tells 0;", one(0, 1023 - (1 << a), 0), 0), 1 << a, "turned", 0, 0);
            asked(told("dares 99;eats 1;tells 0;", one(0, 1023 - (1 << a), 0), 1, 1, 0), 1023 - (1 << a), "turned", 0, 0);
        }
        asked(told("dares 99;eats 1;tells 0;", one(0, 1023, 0)), 1023, "turned", 0, 0);
        asked(told("dares 99;eats 1;tells 0;", one(0, 1023, 0), 2), 0, "turned", 0, 0);
    }

    private static void states() {
        for (int dares : new int[] {0, 1, 98, 99}) {
            String law = "dares " + dares + ";eats 1;tells 0;";
            asked(told(law, one(0, 0, 50), 1), dares + 1, "states", 0, 0, 1, 0);
            asked(told(law, one(0, 0, 50), 0), 99 - dares, "states", 0, 0, 1, 0);
            asked(told(law, one(0, 0, 50), 0), dares == 99 ? -1 : dares + 1, "states", 0, 0, 1, 1);
        }
        for (int shyness : new int[] {0, 1, 98, 99}) {
            asked(told("dares bored;eats 1;tells 0;", one(0, 0, shyness), 1), 100 - shyness, "states", 0, 0, 2, 0);
            asked(told("dares bored;eats 1;tells 0;", one(0, 0, shyness), 1), shyness, "states", 0, 0, 2, 1);
            asked(told("dares bored;eats 1;tells 0;", one(0, 0, shyness), 0), shyness, "states", 0, 0, 2, 0);
        }
        asked(told("dares 99;eats 1;tells 0;", one(0, 0, 0)), 100, "states", 0, 0, 1, 0);
        asked(told("dares 99;eats 1;tells 0;", one(0, 0, 0)), 100, "states", 0, 0, 2, 0);
    }

    private static void statesLeast() {
        asked(told("dares 99;eats 1;tells 0;", one(0, 0, 0), 2), 0, "states", 0, 0, 1, 0);
        asked(told("dares 99;eats 1;tells 0;", one(0, 0, 0), 2), -1, "states", 0, 0, 1, 1);
        asked(told("dares 99;eats 1;tells 0;", one(0, 0, 0), 2), 0, "states", 0, 0, 2, 0);
        asked(told("dares 99;eats 1;tells 0;", one(0, 0, 0), 2), -1, "states", 0, 0, 2, 1);
        for (int v : new int[] {1, 50, 99}) {
            // Just one of them fits.
            asked(told("dares shy=" + v + ";eats 1;tells 0;", one(20, 1023, 1), 1, 1), v == 1 ? 2 : 1, "states", 0, 0, 1, 0);
            asked(told("dares bored=" + v + ";eats 1;tells 0;", one(20, 1023, 1), 1, 1), 1, "states", 0, 0, 2, 0);
            asked(told("dares bored=" + v + ";eats 1;tells 0;", one(20, 1023, 1), 1, 1), v, "states", 0, 0, 2, 1);
        }
        asked(told("dares bored=0;eats 1;tells 0;", one(20, 1023, 1), 1), 0, "states", 0, 0, 2, 1);
        asked(told("dares 98;eats 1;tells 0;", one(0, 0, 1), 0), 99, "states", 0, 0, 1, 1);
        asked(told("dares 98;eats 1;tells 0;", one(0, 0, 1), 0), 1, "states", 0, 0, 1, 0);
        // BORED is 99 at most: nobody becomes 100.
        asked(told("dares 99*(bored=100);eats 1;tells 0;", one(20, 1023, 1), 0, 0), 100, "states", 0, 0, 2, 0);
        asked(told("dares bored=99;eats 1;tells 0;", one(20, 1023, 1), 0, 1), 1, "states", 0, 0, 2, 0);
        asked(told("dares bored=99;eats 1;tells 0;", one(20, 1023, 1), 0, 1), 98, "states", 0, 0, 2, 1);
    }

    private static void statesSortWhat() {
        for (int sort : beside(1, 2)) {
            refused(Edges::tales, -7, "states", 0, 2, sort, 0);
            refused(Edges::tales, -7, "states", 0, 2, sort, 1);
            refused(Edges::tales, -5, "states", 0, 3, sort, 0);
            refused(Edges::tales, -11, "states", 3, 3, sort, 0);
        }
        for (int what : beside(0, 1)) {
            refused(Edges::tales, -7, "states", 0, 2, 1, what);
            refused(Edges::tales, -7, "states", 0, 2, 2, what);
            refused(Edges::tales, -7, "states", 0, 2, 3, what);
            refused(Edges::tales, -5, "states", 0, 3, 1, what);
        }
    }

    private static Scene widows(int seats, int inDanger, int... numbers) {
        return () -> {
            StalemateDinner d = bare();
            for (int p = 0; p < seats; p++) {
                d.guest(50, 0, 0);
                d.put(p, 4, inDanger >> p & 1);
            }
            Check.sheet(d, 0, 0, numbers);
            return d;
        };
    }

    private static void feared() {
        asked(widows(0, 0), 0, "feared", 0);
        asked(widows(0, 0, 0), 0, "feared", 0);
        for (int seats = 1; seats <= 6; seats++) {
            int all = (1 << seats) - 1;
            asked(widows(seats, 0), all, "feared", 0);
            asked(widows(seats, 0, 1, 0), all, "feared", 0);
            asked(widows(seats, all, seats - 1, 0), all, "feared", 0);
            asked(widows(seats, all, seats), 0, "feared", 0);
            asked(widows(seats, 0, 0), 0, "feared", 0);
            asked(widows(seats, 1, 0), 1, "feared", 0);
            asked(widows(seats, 1 << seats - 1, 0, 0), 1 << seats - 1, "feared", 0);
            asked(widows(seats, 1, 2), all - 1, "feared", 0);
        }
    }

    private static StalemateDinner sixLaws(int shyness, int... numbers) {
        StalemateDinner d = bare();
        for (int t = 1; t < 6; t++) {
            Check.text(d, "dares " + 10 * t + ";eats 1;tells 0;");
        }
        d.guest(0, 0, shyness);
        d.force(3);
        Check.sheet(d, 0, 0, numbers);
        return d;
    }

    private static void laws() {
        asked(() -> sixLaws(99), 0b111111, "laws", 0);
        asked(() -> sixLaws(0, 1), 0b111111, "laws", 0);
        asked(() -> sixLaws(10, 1), 0b111111, "laws", 0);
        asked(() -> sixLaws(11, 1), 0b111101, "laws", 0);
        asked(() -> sixLaws(50, 1), 0b100001, "laws", 0);
        asked(() -> sixLaws(51, 1), 0b000001, "laws", 0);
        asked(() -> sixLaws(99, 1), 0b000001, "laws", 0);
        asked(() -> sixLaws(41, 0), 0b011110, "laws", 0);
        asked(() -> sixLaws(51, 0), 0b111110, "laws", 0);
        asked(() -> sixLaws(51, 2), 0, "laws", 0);
        StalemateDinner d = bare();
        d.sheet(0, 0, 0);
        due(d, 1, "laws", 0);
        d.sheet(0, 0, 1);
        due(d, 1, "laws", 0);
        d.cell(0, 0, 1);
        due(d, 0, "laws", 0);
        d = read();
        d.force(5);
        due(d, 5, "count", 4);
        due("laws leave the law", d.laws(0) >= 0 ? d.count(4) : -1, 5);
    }

    private static void film() {
        for (int n : new int[] {0, 1, 19, 20}) {
            StalemateDinner d = cook(3);
            for (int s = 0; s < 4; s++) {
                due(d, n, "film", s, n);
                due(d, -1, "judge", s);
                due(d, -12, "cell", s, n, 1);
                due(d, 0, "guestsBy", s, 0, 0, 0);
                due(d, -13, "guestsBy", s, 2, 0, 0);
                if (n > 0) {
                    due(d, 1, "cell", s, n - 1, 0);
                    due(d, n - 1, "judge", s);
                }
            }
            due(d, 0, "count", 1);
            due(d, 0, "told", 0, 3);
        }
        // The numbers: all six, then none.
        StalemateDinner d = with("dares 99*(minute<19);eats 1;tells 0;", one(20, 1023, 1), one(20, 1023, 1), one(20, 1023, 1),
                one(20, 1023, 1), one(20, 1023, 1), one(20, 1023, 1));
        due(d, 20, "film", 0, 20);
        int[] told = new int[20];
        java.util.Arrays.fill(told, 0, 19, 6);
        Check.sheet(d, 1, 0, told);
        due(d, -1, "judge", 0);
        due(d, -1, "judge", 1);
        // All else is as it was.
        d = laid();
        due(d, 2, "film", 3, 2);
        java.util.List<Long> with = Whole.of(d);
        StalemateDinner other = laid();
        Check.sheet(other, 3, 0, laid().run(1, 1), laid().run(2, 1) - laid().run(1, 1));
        due("a film changes its sheet alone", with.equals(Whole.of(other)) ? 1 : 0, 1);
        due(bare(), 20, "film", 0, 20);
        due(late(), 20, "film", 0, 20);
    }

    private static void filmSheet() {
        for (int s : beside(0, 3)) {
            refused(Edges::laid, BAD, "film", s, 5);
            refused(Edges::laid, BAD, "film", s, 21);
            refused(Edges::laid, BAD, "film", s, -1);
        }
        due(laid(), 5, "film", 0, 5);
        due(laid(), 5, "film", 3, 5);
    }

    private static void filmN() {
        for (int n : beside(0, 20)) {
            for (int s = 0; s < 4; s++) {
                refused(Edges::laid, -7, "film", s, n);
            }
            refused(Edges::bare, -7, "film", 0, n);
        }
    }
}
