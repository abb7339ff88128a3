/** Promises 35 to 39: the host. */
public final class HostTest {
    public static void main(String[] args) {
        sheet();
        cell();
        copy();
        guestsBy();
        taken();
        Check.end();
    }

    // Promise 35
    private static void sheet() {
        StalemateDinner d = new StalemateDinner();
        int[][] due = {
            {-1, 0, 1, -2}, {4, 0, 1, -2}, {0, 3, 1, -2}, {0, -2, 1, -2}, {0, 0, 41, -2}, {0, 0, -1, -14}, {0, 3, -1, -2},
            {0, 0, 40, 1}, {0, 1, 0, 1}, {0, 2, 7, 1}, {3, 2, 40, 1}, {1, -1, 41, 1}, {1, -1, -1, 1}};
        for (int[] row : due) {
            Check.due("sheet(" + row[0] + ", " + row[1] + ", " + row[2] + ")", d.sheet(row[0], row[1], row[2]), row[3]);
        }
        Check.due("missing", d.cell(1, 0, 0), -11);
        Check.due("seven", d.cell(0, 6, 1), 1);
        Check.due("no eighth", d.cell(0, 7, 1), -12);
        Check.due("a refusal changes nothing", d.sheet(0, 2, 41) + d.cell(0, 6, 1), -1);
        d.sheet(0, 2, 7);
        Check.due("all are 0 again", d.judge(0), -1);
        d.cell(0, 6, 1);
        Check.due("one isn't", d.judge(0), 6);
        d.sheet(0, -1, 7);
        Check.due("missing again", d.judge(0), -11);
        d.sheet(0, 2, 7);
        Check.due("all are 0 then", d.judge(0), -1);
    }

    // Promise 36
    private static void cell() {
        StalemateDinner d = new StalemateDinner();
        Check.due("cell: sheet", d.cell(-1, 9, 0), -2);
        Check.due("cell: sheet", d.cell(4, 9, 0), -2);
        Check.due("cell: missing", d.cell(0, -1, 0), -11);
        d.sheet(0, 0, 3);
        Check.due("cell: outside", d.cell(0, 3, 0), -12);
        Check.due("cell: outside", d.cell(0, -1, 0), -12);
        Check.due("cell: the last", d.cell(0, 2, 9), 1);
        Check.due("it holds what was put there", d.judge(0), 2);
        // Nobody is there, so that just a 0 is as minutes are.
        int[][] some = {{0, 255}, {0, 128}, {1, 256}, {1, 65535}, {2, 256}, {2, 65536}};
        for (int[] row : some) {
            d.sheet(0, row[0], 1);
            d.cell(0, 0, row[1]);
            Check.due("sort " + row[0] + " of " + row[1], d.judge(0), 0);
        }
        int[][] zero = {{0, 256}, {0, -256}, {0, 65536}, {1, 65536}, {1, -65536}, {2, 0}};
        for (int[] row : zero) {
            d.sheet(0, row[0], 1);
            d.cell(0, 0, row[1]);
            Check.due("sort " + row[0] + " of " + row[1], d.judge(0), -1);
        }
        // Of bytes 200 is below 0, of shorts it isn't.
        for (int sort = 0; sort < 3; sort++) {
            d = new StalemateDinner();
            Check.sheet(d, 0, sort, 7, 200, 5);
            Check.due("WRONG 200 of sort " + sort, d.guestsBy(0, sort, 0, 1), sort == 0 ? 0 : 1);
            Check.sheet(d, 0, sort, 7, 65536 + 256 + 3, 5);
            Check.due("WRONG 65795 of sort " + sort, d.guestsBy(0, sort, 0, 1), sort == 2 ? 0 : 1);
            if (sort < 2) {
                Check.due("its lowest bits", d.told(d.count(0) - 1, 0), sort == 0 ? 3 : 259);
            }
        }
        Check.sheet(d, 0, 1, 7, 40000, 5);
        Check.due("WRONG 40000 of shorts", d.guestsBy(0, 1, 0, 1), 0);
    }

    // Promise 37
    private static void copy() {
        StalemateDinner d = new StalemateDinner();
        d.sheet(0, 0, 4);
        d.sheet(1, 0, 6);
        d.sheet(2, 1, 6);
        int[][] due = {
            {-1, 0, 1, 0, 1, -2}, {4, 0, 1, 0, 1, -2}, {0, 0, -1, 0, 1, -2}, {0, 0, 4, 0, 1, -2},
            {3, 0, 4, 0, 1, -2}, {3, 0, 1, 0, 1, -11}, {0, 0, 3, 0, -1, -11}, {3, 0, 3, 0, 1, -11},
            {0, 0, 2, 0, 1, -13}, {2, -1, 0, 0, -1, -13}, {0, 0, 1, 0, -1, -12}, {0, -1, 1, 0, 1, -12},
            {0, 0, 1, -1, 1, -12}, {0, 1, 1, 0, 4, -12}, {1, 0, 0, 1, 4, -12}, {0, 0, 1, 0, 5, -12},
            {0, 5, 1, 0, 0, -12}, {0, 0, 1, 7, 0, -12}, {0, 2147483647, 1, 0, 1, -12}, {0, 0, 1, 2147483647, 2, -12},
            {0, 1, 1, 1, 2147483647, -12}, {0, 0, 1, 0, -2147483648, -12},
            {0, 4, 1, 6, 0, 0}, {0, 0, 1, 2, 4, 4}, {1, 0, 1, 3, 3, 3}};
        for (int[] r : due) {
            String call = "copy(" + r[0] + ", " + r[1] + ", " + r[2] + ", " + r[3] + ", " + r[4] + ")";
            Check.due(call, d.copy(r[0], r[1], r[2], r[3], r[4]), r[5]);
        }
        // Three numbers 1, 2, 3 as guests, moved within their own sheet both ways.
        for (int by : new int[] {1, -1}) {
            Check.sheet(d, 1, 0, 9, 1, 2, 3, 9, 9);
            Check.due("within itself", d.copy(1, 1, 1, 1 + by, 3), 3);
            Check.due("as they were", d.guestsBy(1, 0, 1 + by, 1), 1);
            int p = d.count(0) - 1;
            Check.due("the first", d.told(p, 6), 1);
            Check.due("the second", d.told(p, 0), 2);
            Check.due("the third", d.told(p, 1), 3);
        }
        Check.sheet(d, 1, 2, 59, 1000, 98);
        d.sheet(0, 2, 3);
        d.copy(1, 0, 0, 0, 3);
        Check.due("another one's", d.guestsBy(0, 2, 0, 1), 1);
        Check.due("the numbers whole", d.told(d.count(0) - 1, 0) * 100 + d.told(d.count(0) - 1, 1), 100098);
    }

    // Promise 38
    private static void guestsBy() {
        StalemateDinner d = new StalemateDinner();
        int[][] due = {
            {-1, 0, 0, 1, -2}, {4, 0, 0, 1, -2}, {0, -1, 0, 1, -2}, {0, 3, 0, 1, -2}, {0, 0, 0, 7, -2}, {0, 0, 0, -1, -2},
            {0, 0, 0, 1, -11}, {1, 1, -1, 1, -13}, {1, 0, -1, 1, -12}, {1, 0, 1, 1, -12}, {1, 0, 3, 1, -12},
            {1, 0, 2147483647, 6, -12}, {1, 0, -2147483648, 6, -12}, {1, 0, 0, 0, 0}};
        d.sheet(1, 0, 3);
        for (int[] r : due) {
            String call = "guestsBy(" + r[0] + ", " + r[1] + ", " + r[2] + ", " + r[3] + ")";
            Check.due(call, d.guestsBy(r[0], r[1], r[2], r[3]), r[4]);
        }
        Check.due("nobody came", d.count(0), 0);
        Check.due("one", d.guestsBy(1, 0, 0, 1), 1);
        Check.due("what stood ahead", d.guestsBy(1, 0, 0, 2), -12);
        Check.due("came", d.count(0), 2);
        Check.sheet(d, 2, 2, 0, 12, 1023, 99, 60, 0, 0, 0, 1024, 0, 0, 0, 100, 34, 5, 6);
        Check.due("others are left out", d.guestsBy(2, 2, 1, 5), 2);
        Check.due("four now", d.count(0), 4);
        int[][] came = {{1023, 99, 0, 0, 0, 1, 2}, {5, 6, 0, 0, 0, 3, 4}};
        for (int k = 0; k < 2; k++) {
            for (int what = 0; what < 7; what++) {
                Check.due("told(" + (2 + k) + ", " + what + ")", d.told(2 + k, what), came[k][what]);
            }
        }
        Check.sheet(d, 3, 1, new int[18]);
        Check.due("until it is full", d.guestsBy(3, 1, 0, 6), 2);
        Check.due("full", d.guestsBy(3, 1, 0, 6), 0);
        Check.due("full, and outside", d.guestsBy(3, 1, 1, 6), -12);
    }

    // Promise 39
    private static void taken() {
        StalemateDinner d = new StalemateDinner();
        for (int kind = 0; kind < 6; kind++) {
            d.guest(10 * kind, 0, 0);
        }
        // By the guest's kind: for which ones it can be taken.
        int[] is = {0b000001, 0b000011, 0b000101, 0b001011, 0b010101, 0b100001};
        d.put(2, 4, 1);
        d.put(5, 4, 1);
        for (int p = 0; p < 6; p++) {
            for (int kind = 0; kind < 6; kind++) {
                Check.due("taken(" + p + ", " + kind + ")", d.taken(p, kind), (is[p] >> kind & 1) == 1 ? p : -13);
                Check.due("taken(" + (6 + p) + ", " + kind + ")", d.taken(6 + p, kind), -13);
            }
            Check.due("taken(" + p + ", 6)", d.taken(p, 6), -13);
            Check.due("taken(" + (6 + p) + ", 6)", d.taken(6 + p, 6), p == 2 || p == 5 ? 1 : 0);
        }
        d = new StalemateDinner();
        d.guest(0, 0, 0);
        int[][] due = {{12, 7, -2}, {0, -1, -2}, {12, 0, -12}, {-1, 6, -12}, {1, 6, -11}, {5, 0, -11}, {7, 0, -11}, {11, 6, -11},
            {0, 1, -13}, {6, 0, -13}, {0, 6, -13}, {6, 6, 0}, {0, 0, 0}};
        for (int[] row : due) {
            Check.due("taken(" + row[0] + ", " + row[1] + ")", d.taken(row[0], row[1]), row[2]);
        }
    }
}
