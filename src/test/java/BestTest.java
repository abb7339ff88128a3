/** Promises 18 to 23: what is best. */
public final class BestTest {
    public static void main(String[] args) {
        poker();
        forgive();
        alarm();
        change();
        bold();
        mean();
        ofSix();
        Check.end();
    }

    private static void best(String name, int which, int wantWhich, int how, int wantHow) {
        Check.due(name + ": which", which, wantWhich);
        Check.due(name + ": how many", how, wantHow);
    }

    // Promise 18
    private static void poker() {
        StalemateDinner d = new StalemateDinner();
        best("poker of nobody", d.poker(0, 0), -1, d.poker(0, 1), 0);
        d.guest(0, 1023, 0);
        best("one act more", d.poker(0, 0), 0, d.poker(0, 1), 0);
        best("which is done then", d.poker(1, 0), -1, d.poker(1, 1), 1);
        d = new StalemateDinner();
        d.guest(10, 1023, 0);
        best("a bred one minds act 0", d.poker(0, 0), 1, d.poker(0, 1), 0);
        d.guest(11, 1023, 0);
        best("the first that is right for both", d.poker(0, 0), 2, d.poker(0, 1), 0);
        d.guest(50, 0, 0);
        best("a widow stays stuck", d.poker(0, 0), 2, d.poker(0, 1), 1);
        Check.due("nothing changed", d.told(0, 0), 1023);
        d = new StalemateDinner();
        d.guest(0, 1022, 0);
        d.guest(50, 0, 0);
        best("none is better than so", d.poker(0, 0), -1, d.poker(0, 1), 1);
        best("right twice", d.poker(1, 0), 1, d.poker(1, 1), 1);
        best("behind 40 minutes", d.poker(40, 0), -1, d.poker(40, 1), 2);
        Check.due("poker: n", d.poker(-1, 0), -2);
        Check.due("poker: n", d.poker(41, 0), -2);
        Check.due("poker: what", d.poker(0, 2), -2);
        Check.due("poker: what", d.poker(0, -1), -2);
    }

    // Promise 19
    private static void forgive() {
        StalemateDinner d = new StalemateDinner();
        d.guest(0, 1023, 0);
        d.guest(10, 1023, 0);
        d.guest(0, 1022, 0);
        d.guest(50, 1023, 0);
        d.guest(50, 1023, 0);
        d.put(4, 4, 1);
        best("the least bit", d.forgive(0, 0), 1, d.forgive(0, 1), 1);
        best("a bred one minds act 0", d.forgive(1, 0), 2, d.forgive(1, 1), 1);
        best("none", d.forgive(2, 0), 0, d.forgive(2, 1), 0);
        best("a widow", d.forgive(3, 0), -1, d.forgive(3, 1), -1);
        best("in danger", d.forgive(4, 0), 0, d.forgive(4, 1), 0);
        Check.due("forgive: none such", d.forgive(5, 2), -5);
        Check.due("forgive: none such", d.forgive(-1, 0), -5);
        Check.due("forgive: what", d.forgive(0, 2), -7);
        Check.due("forgive: what", d.forgive(0, -1), -7);
        Check.due("nothing changed", d.told(0, 0), 1023);

        d = new StalemateDinner();
        Check.law(d, "dares 9-wrongs;eats 1;tells 1;");
        d.guest(0, 1023, 2);
        d.guest(20, 1023, 2);
        d.guest(0, 1020, 2);
        d.guest(0, 1023, 10);
        best("three less, that one dares", d.forgive(0, 0), 7, d.forgive(0, 1), 3);
        best("a hungry one need not dare", d.forgive(1, 0), 1, d.forgive(1, 1), 1);
        best("of those that are wrong", d.forgive(2, 0), 4, d.forgive(2, 1), 1);
        best("too shy for any", d.forgive(3, 0), -1, d.forgive(3, 1), -1);
        d.put(3, 1, 9);
        best("all of them", d.forgive(3, 0), 1023, d.forgive(3, 1), 10);
    }

    // Promise 20
    private static void alarm() {
        StalemateDinner d = new StalemateDinner();
        Check.law(d, "dares 99;eats 4;tells 0;");
        best("alarm of nobody", d.alarm(40, 0), -1, d.alarm(40, 1), 0);
        d.guest(10, 1023, 0);
        d.guest(0, 1023, 0);
        d.guest(0, 1023, 0);
        best("now nobody ate", d.alarm(0, 0), -1, d.alarm(0, 1), 0);
        best("the first of the greedier two", d.alarm(1, 0), 1, d.alarm(1, 1), 4);
        d.put(1, 4, 1);
        best("one who is in danger does not count", d.alarm(1, 0), 2, d.alarm(1, 1), 8);
        d.put(2, 4, 1);
        best("one is left", d.alarm(40, 0), 0, d.alarm(40, 1), 10);
        d.put(0, 4, 1);
        best("all are", d.alarm(40, 0), -1, d.alarm(40, 1), 10);
        Check.due("nothing changed", d.dinner(1), 7);
        d = new StalemateDinner();
        d.guest(20, 511, 99);
        Check.law(d, "dares 0;eats 1;tells 0;");
        best("by act 0 a hungry one eats less", d.alarm(1, 0), -1, d.alarm(1, 1), 10);
        best("but has act 9 left, the minute behind", d.alarm(2, 0), 0, d.alarm(2, 1), 11);
        Check.due("alarm: n", d.alarm(-1, 0), -2);
        Check.due("alarm: n", d.alarm(41, 0), -2);
        Check.due("alarm: what", d.alarm(0, 2), -2);
        Check.due("alarm: what", d.alarm(0, -1), -2);
    }

    // Promise 21
    private static void change() {
        StalemateDinner d = new StalemateDinner();
        best("change of nobody", d.change(0, 0), -1, d.change(0, 1), 0);
        d.guest(50, 1023, 0);
        d.guest(50, 1023, 0);
        d.guest(0, 1023, 0);
        best("all alike", d.change(0, 0), -1, d.change(0, 1), 3);
        d.guest(50, 0, 0);
        best("the third and the fourth", d.change(0, 0), 23, d.change(0, 1), 3);
        d.guest(50, 0, 0);
        best("the least number of like ones", d.change(0, 0), 23, d.change(0, 1), 4);
        d.put(1, 0, 1022);
        best("a least number that is less", d.change(0, 0), 12, d.change(0, 1), 4);
        best("behind a minute two right acts are better", d.change(1, 0), 23, d.change(1, 1), 4);
        best("behind 40 none is", d.change(40, 0), -1, d.change(40, 1), 5);
        Check.due("nothing changed", d.told(1, 0), 1022);
        Check.due("change: n", d.change(-1, 0), -2);
        Check.due("change: n", d.change(41, 0), -2);
        Check.due("change: what", d.change(0, 2), -2);
        Check.due("change: what", d.change(0, -1), -2);
        d = new StalemateDinner();
        d.guest(50, 0, 0);
        d.guest(0, 1023, 0);
        best("the first two", d.change(0, 0), 1, d.change(0, 1), 1);
    }

    // Promise 22
    private static void bold() {
        StalemateDinner d = new StalemateDinner();
        d.guest(0, 0, 0);
        d.guest(0, 1023, 0);
        d.guest(20, 1023, 77);
        d.guest(20, 1022, 0);
        d.guest(50, 0, 0);
        d.guest(50, 0, 0);
        d.put(5, 4, 1);
        Check.law(d, "dares 50;eats 1;tells 1;");
        int[] want = {50, -1, 50, 99, -1, 99};
        for (int p = 0; p < 6; p++) {
            Check.due("bold(" + p + ")", d.bold(p), want[p]);
        }
        Check.due("nothing changed", d.told(2, 1), 77);
        Check.law(d, "dares (shy=7)*7;eats 1;tells 1;");
        Check.due("as shy as the text wants it", d.bold(0), 7);
        Check.law(d, "dares 0;eats 1;tells 1;");
        Check.due("not shy at all", d.bold(0), 0);
        Check.law(d, "dares 98+shy;eats 1;tells 1;");
        Check.due("as shy as can be", d.bold(0), 99);
        Check.due("bold: none such", d.bold(6), -5);
        Check.due("bold: none such", d.bold(-1), -5);
    }

    private static void fraction(StalemateDinner d, long above, long below) {
        Check.due("mean(0)", d.mean(0), above);
        Check.due("mean(1)", d.mean(1), below);
    }

    // Promise 23
    private static void mean() {
        StalemateDinner d = new StalemateDinner();
        fraction(d, StalemateDinner.NO, StalemateDinner.NO);
        d.guest(0, 0, 0);
        fraction(d, 0, 1);
        d.put(0, 2, 3);
        fraction(d, 3, 1);
        d.guest(0, 0, 0);
        fraction(d, 3, 2);
        d.put(1, 2, 1);
        fraction(d, 2, 1);
        d.guest(0, 0, 0);
        d.guest(0, 0, 0);
        fraction(d, 1, 1);
        d.put(0, 2, 5);
        fraction(d, 3, 2);
        d.guest(0, 0, 0);
        d.guest(0, 0, 0);
        fraction(d, 1, 1);
        d.put(0, 2, 3);
        fraction(d, 2, 3);
        d.put(0, 2, 4);
        fraction(d, 5, 6);
        for (int p = 0; p < 6; p++) {
            d.put(p, 2, 99);
        }
        fraction(d, 99, 1);
        Check.due("mean(2)", d.mean(2), StalemateDinner.NO);
        Check.due("mean(-1)", d.mean(-1), StalemateDinner.NO);
    }

    private static void ofSix() {
        StalemateDinner d = new StalemateDinner();
        for (int p = 0; p < 6; p++) {
            d.guest(p == 5 ? 0 : 50, p == 4 ? 0 : 1023, 0);
        }
        best("six: poker", d.poker(0, 0), 0, d.poker(0, 1), 5);
        best("six: alarm, by whom the last is told a right act", d.alarm(1, 0), 4, d.alarm(1, 1), 1);
        best("six: change", d.change(0, 0), 45, d.change(0, 1), 5);
        best("six: forgive", d.forgive(5, 0), 1, d.forgive(5, 1), 1);
        Check.law(d, "dares 99;eats 1;tells 0;");
        best("six: alarm, the last one alone", d.alarm(1, 0), 5, d.alarm(1, 1), 1);
    }
}
