/** Promises 24 to 30: minutes told by a sheet. */
public final class ToldMinutesTest {
    public static void main(String[] args) {
        judge();
        refusals();
        kinds();
        turned();
        states();
        feared();
        laws();
        film();
        Check.end();
    }

    /** Two who do two acts in each of five minutes, and none behind them. */
    private static StalemateDinner two() {
        StalemateDinner d = new StalemateDinner();
        d.guest(0, 0, 0);
        d.guest(0, 0, 0);
        return d;
    }

    /** One alone, who tells oneself. */
    private static StalemateDinner one(int kindMore, int wrongs, int shyness) {
        StalemateDinner d = new StalemateDinner();
        d.guest(kindMore, wrongs, shyness);
        return d;
    }

    // Promise 24
    private static void judge() {
        StalemateDinner d = two();
        int[] truth = {2, 2, 2, 2, 2, 0, 0};
        for (int sort = 0; sort < 3; sort++) {
            Check.sheet(d, sort, sort, truth);
            Check.due("all so", d.judge(sort), -1);
            for (int i = 0; i < truth.length; i++) {
                d.cell(sort, i, 1);
                Check.due("otherwise at " + i, d.judge(sort), i);
                if (i > 0) {
                    d.cell(sort, 0, 1);
                    Check.due("the first of two", d.judge(sort), 0);
                    d.cell(sort, 0, truth[0]);
                }
                d.cell(sort, i, truth[i]);
            }
        }
        d.cell(2, 0, 258);
        Check.due("an int is told whole", d.judge(2), 0);
        d.cell(0, 0, 258);
        Check.due("a byte is not", d.judge(0), -1);
        d.sheet(3, 0, 0);
        Check.due("nothing told", d.judge(3), -1);
        d.clock(999);
        Check.due("in thought beyond 999", d.judge(0), -1);
        Check.due("nothing changed", d.told(0, 0) + d.told(1, 3), 0);
    }

    // What comes ahead of the answer, in the order of the document
    private static void refusals() {
        StalemateDinner d = two();
        Check.sheet(d, 1, 0, new int[21]);
        Check.sheet(d, 2, 2, new int[20]);
        d.sheet(3, 0, 0);
        int[][] due = {{-1, -2}, {4, -2}, {0, -11}, {1, -2}};
        for (int[] row : due) {
            String sheet = "(" + row[0] + ")";
            Check.due("judge" + sheet, d.judge(row[0]), row[1]);
            Check.due("kinds" + sheet, d.kinds(row[0], 9, 9), row[1]);
            Check.due("turned" + sheet, d.turned(row[0], 9), row[1]);
            Check.due("states" + sheet, d.states(row[0], 9, 9, 9), row[1]);
            Check.due("feared" + sheet, d.feared(row[0]), row[1]);
            Check.due("laws" + sheet, d.laws(row[0]), row[1]);
        }
        for (int p : new int[] {-1, 2}) {
            Check.due("kinds: none such", d.kinds(2, p, 9), -5);
            Check.due("turned: none such", d.turned(2, p), -5);
            Check.due("states: none such", d.states(2, p, 9, 9), -5);
        }
        Check.due("kinds: sort", d.kinds(2, 0, 2), -7);
        Check.due("kinds: sort", d.kinds(2, 0, -1), -7);
        Check.due("states: sort", d.states(2, 0, 0, 0), -7);
        Check.due("states: sort", d.states(2, 0, 3, 0), -7);
        Check.due("states: what", d.states(2, 0, 1, 2), -7);
        Check.due("states: what", d.states(2, 0, 2, -1), -7);
        Check.due("twenty can be told", d.judge(2), 0);
    }

    // Promise 25
    private static void kinds() {
        StalemateDinner d = one(3, 1022, 0);
        Check.sheet(d, 0, 0, 1, 0);
        Check.due("once", d.kinds(0, 0, 0), 0b000011);
        Check.sheet(d, 0, 0, 1, 1);
        Check.due("twice", d.kinds(0, 0, 0), 0b011100);
        Check.sheet(d, 0, 0, 0);
        Check.due("not at all", d.kinds(0, 0, 0), 0b100000);
        d.sheet(0, 0, 0);
        Check.due("nothing told: any kind", d.kinds(0, 0, 0), 63);
        Check.due("nothing told: any more", d.kinds(0, 0, 1), 1023);
        Check.due("the kind is as it was", d.told(0, 5) * 10 + d.told(0, 6), 3);
        d = one(13, 1022, 0);
        Check.sheet(d, 0, 0, 0);
        Check.due("a bred one stuck", d.kinds(0, 0, 1), 1);
        Check.sheet(d, 0, 0, 1, 0);
        Check.due("a bred one not stuck", d.kinds(0, 0, 1), 1022);
        d = one(40, 1023, 99);
        Check.law(d, "dares 0;eats 1;tells 0;");
        Check.sheet(d, 0, 0, 0, 0, 0, 1);
        Check.due("a cook by 3", d.kinds(0, 0, 1), 1 << 3);
        Check.sheet(d, 0, 0, 0, 0, 0);
        Check.due("a cook by 3 or more", d.kinds(0, 0, 1), 1023 & ~7);
    }

    // Promise 26
    private static void turned() {
        StalemateDinner d = one(0, 1023, 0);
        Check.sheet(d, 0, 0, 1, 0);
        Check.due("any act", d.turned(0, 0), 1023);
        Check.sheet(d, 0, 0, 1, 1);
        Check.due("none", d.turned(0, 0), 0);
        d = one(14, 1023, 0);
        Check.sheet(d, 0, 0, 1, 0);
        Check.due("any but the one that is minded", d.turned(0, 0), 1023 & ~16);
        d = one(0, 1022, 0);
        Check.sheet(d, 0, 0, 0);
        Check.due("also to wrong", d.turned(0, 0), 1);
        Check.sheet(d, 0, 0, 1, 1, 0);
        Check.due("to right", d.turned(0, 0), 1022);
        Check.due("nothing changed", d.told(0, 0), 1022);
    }

    // Promise 27
    private static void states() {
        StalemateDinner d = one(0, 0, 0);
        Check.law(d, "dares 50;eats 1;tells 0;");
        Check.sheet(d, 0, 0, 1);
        Check.due("shy up to 50", d.states(0, 0, 1, 0), 51);
        Check.due("the least", d.states(0, 0, 1, 1), 0);
        Check.sheet(d, 1, 0, 0);
        Check.due("shy above 50", d.states(1, 0, 1, 0), 49);
        Check.due("the least", d.states(1, 0, 1, 1), 51);
        Check.sheet(d, 2, 0, 2);
        Check.due("none", d.states(2, 0, 1, 0), 0);
        Check.due("none is the least", d.states(2, 0, 1, 1), -1);
        Check.law(d, "dares bored;eats 1;tells 0;");
        d.put(0, 1, 30);
        Check.due("bored from 30", d.states(0, 0, 2, 0), 70);
        Check.due("the least", d.states(0, 0, 2, 1), 30);
        Check.sheet(d, 3, 0, 0, 0, 1);
        Check.due("bored enough in the third minute", d.states(3, 0, 2, 0), 1);
        Check.due("by 28", d.states(3, 0, 2, 1), 28);
        Check.due("bored is not shy", d.states(0, 0, 1, 0), 1);
        Check.due("nothing changed", d.told(0, 1) + d.told(0, 2), 30);
    }

    // Promise 28
    private static void feared() {
        StalemateDinner d = new StalemateDinner();
        d.sheet(0, 0, 0);
        Check.due("nobody", d.feared(0), 0);
        d.guest(50, 0, 0);
        d.guest(50, 0, 0);
        d.guest(50, 0, 0);
        d.put(1, 4, 1);
        Check.due("nothing told", d.feared(0), 7);
        Check.sheet(d, 0, 0, 1, 0);
        Check.due("as it is", d.judge(0), -1);
        Check.due("nobody else", d.feared(0), 0);
        Check.sheet(d, 0, 0, 2, 0);
        Check.due("one more", d.feared(0), 0b101);
        Check.sheet(d, 0, 0, 0, 0);
        Check.due("one less", d.feared(0), 0b010);
        Check.due("nothing changed", d.dinner(1), 2);
    }

    // Promise 29
    private static void laws() {
        StalemateDinner d = one(0, 0, 15);
        Check.law(d, "dares 10;eats 1;tells 1;");
        Check.law(d, "dares 20;eats 1;tells 1;");
        Check.sheet(d, 0, 0, 1);
        Check.due("one dares", d.laws(0), 0b101);
        Check.sheet(d, 0, 0, 0);
        Check.due("one does not", d.laws(0), 0b010);
        Check.sheet(d, 0, 0, 3);
        Check.due("none", d.laws(0), 0);
        d.sheet(0, 2, 0);
        Check.due("nothing told", d.laws(0), 0b111);
        Check.due("the law stays", d.count(4), 2);
    }

    // Promise 30
    private static void film() {
        StalemateDinner d = two();
        Check.due("film: sheet", d.film(4, 21), -2);
        Check.due("film: sheet", d.film(-1, 0), -2);
        Check.due("film: n", d.film(0, 21), -7);
        Check.due("film: n", d.film(0, -1), -7);
        Check.due("no sheet came", d.judge(0), -11);
        Check.due("film of 7", d.film(0, 7), 7);
        Check.due("as it will be", d.judge(0), -1);
        Check.due("minutes in thought", d.count(1) + d.told(0, 3), 0);
        Check.due("seven numbers", d.cell(0, 6, 0), 1);
        Check.due("not eight", d.cell(0, 7, 0), -12);
        d.sheet(1, 0, 7);
        Check.due("bytes", d.copy(0, 0, 1, 0, 7), 7);
        Check.due("no ints", d.guestsBy(0, 2, 0, 1), -13);
        int[] truth = {2, 2, 2, 2, 2, 0, 0};
        StalemateDinner other = new StalemateDinner();
        Check.due("2, 2, 2 as a guest", d.guestsBy(0, 0, 0, 1), 1);
        Check.due("by the film", d.told(2, 0) + d.told(2, 1) + d.told(2, 6), 6);
        Check.due("film of 20", d.film(0, 20), 20);
        Check.due("film of 0", d.film(0, 0), 0);
        Check.due("it is empty", d.cell(0, 0, 0), -12);
        Check.due("not missing", d.judge(0), -1);
        other.film(3, 3);
        Check.sheet(other, 2, 0, 0, 0, 0);
        Check.due("nobody does nothing", other.judge(3) + other.judge(2), -2);
        d = two();
        Check.sheet(d, 1, 0, truth);
        d.minute();
        d.film(0, 4);
        Check.due("from now", d.judge(0), -1);
        Check.due("not from before", d.judge(1), 4);
    }
}
