/** What the terms say of refusals: which one of several is told, and what calls change. */
public final class EdgeRefusalsTest extends Edges {
    public static void main(String[] args) {
        of("terms", "REFUSALS, of several the first one told", EdgeRefusalsTest::firstOneTold);
        of("terms", "(a -1 that is an answer comes behind the refusal of a number):", EdgeRefusalsTest::answersBehind);
        of("terms", "NONE there is no such thing; BAD a number is not as told; STATE as told; FULL.", EdgeRefusalsTest::constants);
        of("terms", "The host's: -11 nothing there, -12 a place outside, -13 of another sort or KIND, -14 a size below 0.",
                EdgeRefusalsTest::hosts);
        of("terms", "They change nothing, but where it is told.", EdgeRefusalsTest::refusalsThatChange);
        of("terms", "What is asked changes nothing, but where it is told.", EdgeRefusalsTest::askingChangesNothing);
        of("terms", "What is asked changes nothing, but where it is told.", EdgeRefusalsTest::doneInThought);
        Check.end();
    }

    private static StalemateDinner fullTape() {
        return taped(160);
    }

    private static void firstOneTold() {
        // A call for which each two of its refusals would do, and the one that is told first.
        refused(EdgeRefusalsTest::fullTape, BAD, "feed", 6, 32, 32, 32, 32, 32);
        refused(EdgeRefusalsTest::fullTape, BAD, "feed", 5, 32, 32, 32, 32, 256);
        refused(Edges::read, FULL, "text");
        refused(Edges::full, BAD, "guest", 60, 0, 0);
        refused(Edges::full, BAD, "guest", 0, 1024, 0);
        refused(Edges::full, BAD, "guest", 0, 0, 100);
        refused(Edges::laid, -5, "put", 3, 5, 0);
        refused(Edges::laid, -5, "put", 3, 0, 1024);
        refused(Edges::laid, -5, "told", 3, 10);
        refused(Edges::laid, -5, "manners", 3, 10, 0);
        refused(Edges::laid, -5, "manners", 3, 0, 2);
        refused(Edges::laid, -6, "manners", 0, 10, 2);
        refused(Edges::laid, -5, "forgive", 3, 2);
        int[] sheets = {4, 3, 1};
        long[] told = {BAD, -11, BAD};
        for (int i = 0; i < 3; i++) {
            refused(Edges::tales, told[i], "kinds", sheets[i], 3, 0);
            refused(Edges::tales, told[i], "kinds", sheets[i], 0, 2);
            refused(Edges::tales, told[i], "turned", sheets[i], 3);
            refused(Edges::tales, told[i], "states", sheets[i], 3, 1, 0);
            refused(Edges::tales, told[i], "states", sheets[i], 0, 3, 0);
            refused(Edges::tales, told[i], "states", sheets[i], 0, 1, 2);
        }
        refused(Edges::tales, -5, "kinds", 0, 3, 2);
        refused(Edges::tales, -5, "states", 0, 3, 3, 0);
        refused(Edges::tales, -5, "states", 0, 3, 1, 2);
        refused(Edges::tales, BAD, "film", 4, 21);
        refused(Edges::laid, BAD, "sheet", 4, 0, -1);
        refused(Edges::laid, BAD, "sheet", 0, 3, -1);
        refused(Edges::laid, BAD, "cell", 4, -1, 0);
        refused(Edges::laid, -11, "cell", 3, -1, 0);
        refused(Edges::laid, BAD, "copy", 3, 0, 4, 0, 1);
        refused(Edges::laid, BAD, "copy", 4, 0, 3, 0, 1);
        refused(Edges::laid, BAD, "copy", 4, -1, 0, 0, 1);
        refused(Edges::laid, -11, "copy", 3, -1, 0, 0, 1);
        refused(Edges::laid, -11, "copy", 0, -1, 3, 0, 1);
        refused(Edges::laid, -13, "copy", 0, -1, 1, 0, 1);
        refused(Edges::laid, BAD, "guestsBy", 3, 3, 0, 1);
        refused(Edges::laid, BAD, "guestsBy", 3, 0, 0, 7);
        refused(Edges::laid, BAD, "guestsBy", 0, 1, 0, 7);
        refused(Edges::laid, BAD, "guestsBy", 0, 0, -1, 7);
        refused(Edges::laid, -11, "guestsBy", 3, 0, -1, 1);
        refused(Edges::laid, -13, "guestsBy", 0, 1, -1, 1);
        refused(Edges::laid, BAD, "taken", 12, 7);
        refused(Edges::laid, BAD, "taken", 3, 7);
        refused(Edges::laid, -12, "taken", 12, 6);
        refused(Edges::laid, -11, "taken", 3, 6);
        refused(Edges::laid, -11, "taken", 9, 0);
    }

    private static void answersBehind() {
        // One who is stuck for good: what would be answered by -1 is refused by a number.
        Scene widow = () -> {
            StalemateDinner d = with("dares 99;eats 1;tells 1;", one(50, 0, 0));
            d.sheet(0, 0, 0);
            d.sheet(1, 0, 21);
            return d;
        };
        asked(widow, -1, "told", 0, 7);
        refused(widow, -7, "told", 0, 10);
        refused(widow, -5, "told", 1, 7);
        asked(widow, -1, "when", 7);
        refused(widow, -5, "when", 8);
        refused(widow, -5, "when", 1);
        String[] best = {"poker", "alarm", "change"};
        for (String name : best) {
            asked(widow, -1, name, 0, 0);
            refused(widow, BAD, name, 41, 0);
            refused(widow, BAD, name, 0, 2);
            refused(widow, BAD, name, -1, 0);
        }
        asked(widow, -1, "forgive", 0, 0);
        asked(widow, -1, "forgive", 0, 1);
        refused(widow, -7, "forgive", 0, 2);
        refused(widow, -5, "forgive", 1, 0);
        asked(widow, -1, "bold", 0);
        refused(widow, -5, "bold", 1);
        asked(widow, -1, "judge", 0);
        refused(widow, BAD, "judge", 1);
        refused(widow, -11, "judge", 2);
        refused(widow, BAD, "judge", 4);
        refused(widow, -7, "states", 0, 0, 1, 2);
        asked(() -> {
            StalemateDinner d = widow.make();
            d.sheet(0, 0, 1);
            d.cell(0, 0, 1);
            return d;
        }, -1, "states", 0, 0, 1, 1);
    }

    private static void constants() {
        due("NONE", StalemateDinner.NONE, -1);
        due("BAD", StalemateDinner.BAD, -2);
        due("STATE", StalemateDinner.STATE, -3);
        due("FULL", StalemateDinner.FULL, -4);
        due("NO", StalemateDinner.NO, NO);
        refused(Edges::laid, StalemateDinner.BAD, "clock", 1000);
        refused(Edges::late, StalemateDinner.STATE, "minute");
        refused(Edges::full, StalemateDinner.FULL, "guest", 0, 0, 0);
        refused(Edges::bare, StalemateDinner.NO, "mean", 0);
        asked(Edges::bare, StalemateDinner.NONE, "poker", 0, 0);
    }

    private static void hosts() {
        refused(Edges::laid, -11, "cell", 3, 0, 0);
        refused(Edges::laid, -12, "cell", 0, 9, 0);
        refused(Edges::laid, -13, "copy", 0, 0, 1, 0, 1);
        refused(Edges::laid, -13, "taken", 0, 5);
        refused(Edges::laid, -14, "sheet", 0, 0, -1);
        refused(Edges::laid, -11, "taken", 3, 0);
        refused(Edges::laid, -12, "taken", 12, 0);
    }

    private static void refusalsThatChange() {
        // Told so: a tape with a fault is empty then, and of a row that ends too early the first ones come.
        StalemateDinner d = laid();
        due(d, -107, "text");
        due(d, 0, "count", 5);
        due(d, 3, "count", 3);
        d = laid();
        due(d, -12, "guestsBy", 2, 2, 3, 3);
        due(d, 5, "count", 0);
        int[] fourth = {23, 24, 0, 0, 0, 2, 2};
        for (int what = 0; what < 7; what++) {
            due(d, fourth[what], "told", 3, what);
        }
        d = laid();
        due(d, -12, "guestsBy", 2, 2, 0, 6);
        due(d, 6, "count", 0);
        // One refusal behind the other, and still all is as it was.
        StalemateDinner much = laid();
        refuseMuch(much);
        due("much that is refused changes nothing", Whole.of(much).equals(Whole.of(laid())) ? 1 : 0, 1);
    }

    private static void refuseMuch(StalemateDinner d) {
        due(d, BAD, "clock", -1);
        due(d, BAD, "feed", 0, 120, 120, 120, 120, 120);
        due(d, BAD, "force", 3);
        due(d, BAD, "guest", 60, 1, 1);
        due(d, -7, "put", 0, 0, 1024);
        due(d, -5, "act", 3);
        due(d, -5, "swap", 0, 3);
        due(d, BAD, "run", 41, 0);
        due(d, -7, "film", 0, 21);
        due(d, BAD, "drawn", 100000, 0);
        due(d, NO, "odds", 0, 41, 0, 0);
        due(d, BAD, "sheet", 0, 0, 41);
        due(d, -14, "sheet", 0, 0, -1);
        due(d, -12, "cell", 0, 9, 0);
        due(d, -12, "copy", 0, 1, 0, 0, 9);
        due(d, -12, "guestsBy", 0, 0, 7, 1);
        due(d, -12, "taken", 12, 0);
    }

    /** Each call that asks, with numbers that can be asked for. */
    private static void askingChangesNothing() {
        Object[][] asks = {{"count", 2}, {"asks", 2, 1}, {"told", 1, 7}, {"told", 1, 9}, {"manners", 1, 5, 0}, {"manners", 1, 5, 1},
            {"dinner", 0}, {"dinner", 3}, {"dinner", 4}, {"run", 40, 0}, {"run", 40, 1}, {"run", 40, 11}, {"run", 40, 21}, {"run", 40, 31},
            {"when", 0}, {"when", 6}, {"when", 7}, {"poker", 40, 0}, {"poker", 40, 1}, {"poker", 0, 0}, {"forgive", 2, 0}, {"forgive", 2, 1},
            {"alarm", 40, 0}, {"alarm", 0, 1}, {"change", 40, 0}, {"change", 0, 1}, {"bold", 0}, {"mean", 0}, {"judge", 0},
            {"kinds", 0, 1, 0}, {"kinds", 0, 1, 1}, {"turned", 0, 2}, {"states", 0, 2, 1, 0}, {"states", 0, 2, 2, 1}, {"feared", 0},
            {"laws", 0}, {"drawn", 99999, 0}, {"drawn", 99999, 1}, {"odds", 99999, 40, 20, 0}, {"taken", 1, 2}, {"taken", 7, 6}};
        for (Scene scene : new Scene[] {Edges::laid, Edges::full, Edges::late, Edges::read, Edges::unkept}) {
            for (Object[] ask : asks) {
                int[] args = new int[ask.length - 1];
                for (int i = 0; i < args.length; i++) {
                    args[i] = (Integer) ask[i + 1];
                }
                String name = (String) ask[0];
                asked(scene, call(scene.make(), name, args), name, args);
            }
        }
    }

    /** Asking one thing does not tell another one: each answer is that of a new object, in whatever order. */
    private static void doneInThought() {
        for (Scene scene : new Scene[] {Edges::laid, Edges::full, Edges::late}) {
            StalemateDinner d = scene.make();
            int[][] runs = {{40, 0}, {3, 1}, {40, 2}, {0, 0}, {7, 10}, {7, 21}, {7, 31}, {0, 10}};
            for (int[] row : runs) {
                due(d, scene.make().run(row[0], row[1]), "run", row);
                due(d, scene.make().poker(row[0], 0), "poker", row[0], 0);
                due(d, scene.make().alarm(row[0], 1), "alarm", row[0], 1);
                due(d, scene.make().change(row[0], 0), "change", row[0], 0);
                due(d, scene.make().laws(0), "laws", 0);
                due(d, scene.make().feared(0), "feared", 0);
                due(d, scene.make().bold(1), "bold", 1);
                due(d, scene.make().forgive(2, 0), "forgive", 2, 0);
                due(d, scene.make().kinds(0, 1, 0), "kinds", 0, 1, 0);
                due(d, scene.make().states(0, 1, 1, 0), "states", 0, 1, 1, 0);
                due(d, scene.make().turned(0, 1), "turned", 0, 1);
                due(d, scene.make().drawn(5, 1), "drawn", 5, 1);
                due(d, scene.make().when(6), "when", 6);
            }
        }
    }
}
