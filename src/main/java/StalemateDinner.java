import java.util.Arrays;

/** Up to six guests round a table, and what is the wrong thing for each: ../shared/DOC.md tells all of it. */
public final class StalemateDinner {
    public static final int NONE = -1, BAD = -2, STATE = -3, FULL = -4;
    public static final long NO = -4611686018427387904L;

    private static final int NO_GUEST = -5, NO_ACT = -6, NO_CHOICE = -7, FAULT = -100, NO_SAYING = -1000;
    private static final int MISSING = -11, OUTSIDE = -12, UNLIKE = -13, NEGATIVE = -14;

    private static final int GUESTS = 6, ACTS = 10, ALL_ACTS = 1023, EVEN_ACTS = 341, ODD_ACTS = 682;
    private static final int MOST = 99, MOST_MORE = 9, LAST_MINUTE = 999;
    private static final int LONGEST_RUN = 40, LONGEST_WAIT = 60, LONGEST_TALE = 20;

    private static final int GUEST = 0, BRED = 1, HUNGRY = 2, CANDLE = 3, COOK = 4, WIDOW = 5, KINDS = 6;
    private static final int[] KIND_ABOVE = {-1, GUEST, GUEST, BRED, HUNGRY, GUEST};

    private static final int WRONG = 0, SHY = 1, BORED = 2, ATE = 3, DANGER = 4;

    private static final int DARES = 0, EATS = 1, TELLS = 2, PARTS = 3;
    private static final int TEXTS = 6, TAPE_BYTES = 160, LONGEST_NUMBER = 4, MOST_OPEN = 5, PILE_HEIGHT = 64;

    /* Tokens; a sign's token is the sign itself. Names and the joining words stand in a text's code as well. */
    private static final int END = 0, NO_TOKEN = 1, NUMBER = 2;
    private static final int NAME_SHY = -1, NAME_BORED = -2, NAME_ATE = -3;
    private static final int NAME_MINUTE = -4, NAME_WRONGS = -5, NAME_MORE = -6;
    private static final int OR = -7, AND = -8, NOT = -9, KEY_DARES = -10, KEY_EATS = -11, KEY_TELLS = -12;
    /* Only in a text's code, where what is not below 0 is a number. */
    private static final int LESS = -13, SAME = -14, PLUS = -15, MINUS = -16, TIMES = -17, TURN = -18;

    private static final int SEEDS = 100000, MOST_SEEDS = 40, DRAWN_MINUTES = 12;
    private static final long LOT_FACTOR = 48271L, LOT_MODULUS = 2147483647L;

    private static final int SHEETS = 4, SHEET_NUMBERS = 40;
    private static final int NO_SHEET = -1, BYTES = 0, SHORTS = 1, INTS = 2;

    private final Tape tape;
    private final Reader reader;
    private final Pile pile;
    private final Text[] texts;
    private int textCount;
    private final Table table;
    private final Table thought;
    private final Table kept;
    private boolean isKept;
    private final Sheet[] sheets;

    public StalemateDinner() {
        tape = new Tape();
        reader = new Reader(tape);
        pile = new Pile();
        texts = new Text[TEXTS];
        Text first = new Text(0, new int[] {99, 1, 1}, new int[] {0, 1, 2, 3}, pile);
        texts[0] = first;
        textCount = 1;
        table = new Table(first);
        thought = new Table(first);
        kept = new Table(first);
        sheets = new Sheet[SHEETS];
        for (int s = 0; s < SHEETS; s++) {
            sheets[s] = new Sheet();
        }
    }

    // ---- the table, the law, guests

    public int count(int what) {
        switch (what) {
            case 0: return table.seats;
            case 1: return table.now;
            case 2: return Integer.bitCount(table.stuckBits());
            case 3: return textCount;
            case 4: return table.law.number;
            case 5: return tape.size;
            default: return BAD;
        }
    }

    public int clock(int v) {
        if (v < 0 || v > LAST_MINUTE) {
            return BAD;
        }
        int was = table.now;
        table.now = v;
        return was;
    }

    public int feed(int n, int a, int b, int c, int d, int e) {
        if (n < 1 || n > 5 || !isByte(a) || !isByte(b) || !isByte(c) || !isByte(d) || !isByte(e)) {
            return BAD;
        }
        if (tape.size + n > TAPE_BYTES) {
            return FULL;
        }
        for (int i = 0; i < n; i++) {
            tape.add(i == 0 ? a : i == 1 ? b : i == 2 ? c : i == 3 ? d : e);
        }
        return tape.size;
    }

    public int text() {
        if (textCount >= TEXTS) {
            return FULL;
        }
        int fault = reader.faultPlace();
        tape.size = 0;
        if (fault != NONE) {
            return FAULT - fault;
        }
        int[] code = Arrays.copyOf(reader.code, reader.length);
        texts[textCount] = new Text(textCount, code, reader.starts.clone(), pile);
        textCount++;
        return textCount - 1;
    }

    public int force(int t) {
        if (t < 0 || t >= textCount) {
            return BAD;
        }
        int was = table.law.number;
        table.law = texts[t];
        return was;
    }

    public int asks(int part, int p) {
        if (part < 0 || part >= PARTS || !table.seatsOne(p)) {
            return NO_SAYING;
        }
        return table.law.says(part, table.guests[p], table.now);
    }

    public int guest(int kindMore, int wrongs, int shyness) {
        if (kindMore < 0 || kindMore >= 10 * KINDS || wrongs < 0 || wrongs > ALL_ACTS
                || shyness < 0 || shyness > MOST) {
            return BAD;
        }
        if (table.seats >= GUESTS) {
            return FULL;
        }
        table.guests[table.seats].come(kindMore, wrongs, shyness);
        table.seats++;
        return table.seats - 1;
    }

    public int put(int p, int what, int v) {
        if (!table.seatsOne(p)) {
            return NO_GUEST;
        }
        if (what < WRONG || what > DANGER || v < 0 || v > mostOf(what)) {
            return NO_CHOICE;
        }
        Guest one = table.guests[p];
        int was = one.stateOf(what);
        one.setState(what, v);
        return was;
    }

    public int told(int p, int what) {
        if (!table.seatsOne(p)) {
            return NO_GUEST;
        }
        Guest one = table.guests[p];
        switch (what) {
            case 0: case 1: case 2: case 3: case 4: return one.stateOf(what);
            case 5: return one.kind;
            case 6: return one.more;
            case 7: return table.actOf(one);
            case 8: return table.isStuck(one) ? 1 : 0;
            case 9: return table.toldBy(p);
            default: return NO_CHOICE;
        }
    }

    public int manners(int p, int a, int what) {
        if (!table.seatsOne(p)) {
            return NO_GUEST;
        }
        if (a < 0 || a >= ACTS) {
            return NO_ACT;
        }
        switch (what) {
            case 0: return holds(table.minded(table.guests[p]), a) ? 0 : 1;
            case 1: return table.eatenBy(table.guests[p], a);
            default: return NO_CHOICE;
        }
    }

    public int dinner(int what) {
        switch (what) {
            case 0: return table.stuckBits();
            case 1: return table.dangerBits();
            case 2: return table.rightForAnybody();
            case 3: return table.rightForAll();
            case 4: return table.ateTogether();
            default: return BAD;
        }
    }

    // ---- minutes

    public int minute() {
        if (table.now >= LAST_MINUTE) {
            return STATE;
        }
        return table.pass();
    }

    public int act(int p) {
        if (!table.seatsOne(p)) {
            return NO_GUEST;
        }
        int a = table.actOf(table.guests[p]);
        if (a == NONE) {
            return STATE;
        }
        table.perform(p, a);
        return a;
    }

    public int swap(int a, int b) {
        if (!table.seatsOne(a) || !table.seatsOne(b) || a == b) {
            return NO_GUEST;
        }
        table.exchange(a, b);
        return table.guests[a].wrong;
    }

    public int run(int n, int what) {
        boolean ofAll = what >= 0 && what <= 2;
        boolean ofOne = what >= 10 && what < 40 && table.seatsOne(what % 10);
        if (!isRun(n) || !ofAll && !ofOne) {
            return BAD;
        }
        think();
        int acts = 0;
        for (int i = 0; i < n; i++) {
            acts += thought.pass();
        }
        if (ofOne) {
            Guest one = thought.guests[what % 10];
            return what < 20 ? one.wrong : what < 30 ? one.ate : one.bored;
        }
        return what == 0 ? thought.stuckBits() : what == 1 ? acts : thought.ateTogether();
    }

    public int when(int what) {
        if (what < 0 || what > GUESTS + 1 || what < GUESTS && !table.seatsOne(what)) {
            return NO_GUEST;
        }
        think();
        int everybody = (1 << thought.seats) - 1;
        for (int minutes = 0; minutes <= LONGEST_WAIT; minutes++) {
            int stuck = thought.stuckBits();
            boolean isSo = what < GUESTS ? holds(stuck, what) : stuck == (what == GUESTS ? everybody : 0);
            if (isSo) {
                return minutes;
            }
            thought.pass();
        }
        return NONE;
    }

    // ---- what is best

    public int poker(int n, int what) {
        if (!isRun(n) || !isChoice(what)) {
            return BAD;
        }
        int best = NONE;
        think();
        int fewest = thought.stuckBehind(n);
        for (int a = 0; a < ACTS; a++) {
            think();
            thought.makeRight(a);
            int stuck = thought.stuckBehind(n);
            if (stuck < fewest) {
                best = a;
                fewest = stuck;
            }
        }
        return what == 0 ? best : fewest;
    }

    public int forgive(int p, int what) {
        if (!table.seatsOne(p)) {
            return NO_GUEST;
        }
        if (!isChoice(what)) {
            return NO_CHOICE;
        }
        think();
        Guest one = thought.guests[p];
        int wrong = one.wrong;
        int best = NONE;
        int fewest = ACTS + 1;
        // From the least bits up: of sets of as many ACTS the first one found stays.
        for (int some = 0; some <= ALL_ACTS; some++) {
            if ((some & wrong) == some && Integer.bitCount(some) < fewest) {
                one.wrong = wrong ^ some;
                if (!thought.isStuck(one)) {
                    best = some;
                    fewest = Integer.bitCount(some);
                }
            }
        }
        return what == 0 || best == NONE ? best : fewest;
    }

    public int alarm(int n, int what) {
        if (!isRun(n) || !isChoice(what)) {
            return BAD;
        }
        int best = NONE;
        think();
        int most = thought.ateBehind(n);
        for (int p = 0; p < table.seats; p++) {
            if (!table.guests[p].danger) {
                think();
                thought.guests[p].danger = true;
                int ate = thought.ateBehind(n);
                if (ate > most) {
                    best = p;
                    most = ate;
                }
            }
        }
        return what == 0 ? best : most;
    }

    public int change(int n, int what) {
        if (!isRun(n) || !isChoice(what)) {
            return BAD;
        }
        int best = NONE;
        think();
        int fewest = thought.stuckBehind(n);
        for (int a = 0; a < table.seats; a++) {
            for (int b = a + 1; b < table.seats; b++) {
                think();
                thought.exchange(a, b);
                int stuck = thought.stuckBehind(n);
                if (stuck < fewest) {
                    best = 10 * a + b;
                    fewest = stuck;
                }
            }
        }
        return what == 0 ? best : fewest;
    }

    public int bold(int p) {
        if (!table.seatsOne(p)) {
            return NO_GUEST;
        }
        think();
        Guest one = thought.guests[p];
        for (int shyness = MOST; shyness >= 0; shyness--) {
            one.shy = shyness;
            if (!thought.isStuck(one)) {
                return shyness;
            }
        }
        return NONE;
    }

    public long mean(int part) {
        if (!isChoice(part) || table.seats == 0) {
            return NO;
        }
        return partOfFraction(table.boredTogether(), table.seats, part);
    }

    // ---- told minutes

    public int judge(int s) {
        int refused = refusalOfTale(s);
        if (refused != 0) {
            return refused;
        }
        think();
        return firstOther(sheets[s]);
    }

    public int kinds(int s, int p, int sort) {
        int refused = refusalOfTale(s);
        if (refused != 0) {
            return refused;
        }
        if (!table.seatsOne(p)) {
            return NO_GUEST;
        }
        if (!isChoice(sort)) {
            return NO_CHOICE;
        }
        int fitting = 0;
        int most = sort == 0 ? KINDS - 1 : MOST_MORE;
        for (int v = 0; v <= most; v++) {
            think();
            if (sort == 0) {
                thought.guests[p].kind = v;
            } else {
                thought.guests[p].more = v;
            }
            if (firstOther(sheets[s]) == NONE) {
                fitting |= 1 << v;
            }
        }
        return fitting;
    }

    public int turned(int s, int p) {
        int refused = refusalOfTale(s);
        if (refused != 0) {
            return refused;
        }
        if (!table.seatsOne(p)) {
            return NO_GUEST;
        }
        int fitting = 0;
        for (int a = 0; a < ACTS; a++) {
            think();
            thought.guests[p].wrong ^= 1 << a;
            if (firstOther(sheets[s]) == NONE) {
                fitting |= 1 << a;
            }
        }
        return fitting;
    }

    public int states(int s, int p, int sort, int what) {
        int refused = refusalOfTale(s);
        if (refused != 0) {
            return refused;
        }
        if (!table.seatsOne(p)) {
            return NO_GUEST;
        }
        if (sort != SHY && sort != BORED || !isChoice(what)) {
            return NO_CHOICE;
        }
        int fitting = 0;
        int least = NONE;
        for (int v = 0; v <= MOST; v++) {
            think();
            thought.guests[p].setState(sort, v);
            if (firstOther(sheets[s]) == NONE) {
                fitting++;
                least = least == NONE ? v : least;
            }
        }
        return what == 0 ? fitting : least;
    }

    public int feared(int s) {
        int refused = refusalOfTale(s);
        if (refused != 0) {
            return refused;
        }
        int fitting = 0;
        for (int p = 0; p < table.seats; p++) {
            think();
            thought.guests[p].danger = !thought.guests[p].danger;
            if (firstOther(sheets[s]) == NONE) {
                fitting |= 1 << p;
            }
        }
        return fitting;
    }

    public int laws(int s) {
        int refused = refusalOfTale(s);
        if (refused != 0) {
            return refused;
        }
        int fitting = 0;
        for (int t = 0; t < textCount; t++) {
            think();
            thought.law = texts[t];
            if (firstOther(sheets[s]) == NONE) {
                fitting |= 1 << t;
            }
        }
        return fitting;
    }

    public int film(int s, int n) {
        if (!isSheet(s)) {
            return BAD;
        }
        if (n < 0 || n > LONGEST_TALE) {
            return NO_CHOICE;
        }
        think();
        sheets[s].become(BYTES, n);
        for (int i = 0; i < n; i++) {
            sheets[s].set(i, thought.pass());
        }
        return n;
    }

    // ---- dinners by lots

    public int drawn(int seed, int what) {
        if (!isSeed(seed) || !isChoice(what)) {
            return BAD;
        }
        int acts = actsByLots(seed);
        return what == 0 ? acts : thought.stuckBits();
    }

    public long odds(int seed, int seeds, int least, int part) {
        if (!isSeed(seed) || seeds < 1 || seeds > MOST_SEEDS
                || least < 0 || least > DRAWN_MINUTES * GUESTS || !isChoice(part)) {
            return NO;
        }
        int enough = 0;
        for (int i = 0; i < seeds; i++) {
            if (actsByLots(seed + i) >= least) {
                enough++;
            }
        }
        return partOfFraction(enough, seeds, part);
    }

    public int image() {
        kept.become(table);
        isKept = true;
        return kept.seats;
    }

    public int back() {
        if (!isKept) {
            return STATE;
        }
        table.become(kept);
        return table.seats;
    }

    // ---- the host

    public int sheet(int s, int sort, int n) {
        if (!isSheet(s) || sort < NO_SHEET || sort > INTS) {
            return BAD;
        }
        if (sort == NO_SHEET) {
            sheets[s].become(NO_SHEET, 0);
            return 1;
        }
        if (n > SHEET_NUMBERS) {
            return BAD;
        }
        if (n < 0) {
            return NEGATIVE;
        }
        sheets[s].become(sort, n);
        return 1;
    }

    public int cell(int s, int i, int v) {
        if (!isSheet(s)) {
            return BAD;
        }
        if (sheets[s].sort == NO_SHEET) {
            return MISSING;
        }
        if (i < 0 || i >= sheets[s].size) {
            return OUTSIDE;
        }
        sheets[s].set(i, v);
        return 1;
    }

    public int copy(int s, int i, int other, int j, int n) {
        if (!isSheet(s) || !isSheet(other)) {
            return BAD;
        }
        Sheet from = sheets[s];
        Sheet to = sheets[other];
        if (from.sort == NO_SHEET || to.sort == NO_SHEET) {
            return MISSING;
        }
        if (from.sort != to.sort) {
            return UNLIKE;
        }
        if (n < 0 || i < 0 || i > from.size - n || j < 0 || j > to.size - n) {
            return OUTSIDE;
        }
        System.arraycopy(from.numbers, i, to.numbers, j, n);
        return n;
    }

    public int guestsBy(int s, int sort, int from, int n) {
        if (!isSheet(s) || sort < BYTES || sort > INTS || n < 0 || n > GUESTS) {
            return BAD;
        }
        Sheet row = sheets[s];
        if (row.sort == NO_SHEET) {
            return MISSING;
        }
        if (row.sort != sort) {
            return UNLIKE;
        }
        int came = 0;
        for (int k = 0; k < n; k++) {
            int at = from + 3 * k;
            if (at < 0 || at > row.size - 3) {
                return OUTSIDE;
            }
            if (guest(row.numbers[at], row.numbers[at + 1], row.numbers[at + 2]) >= 0) {
                came++;
            }
        }
        return came;
    }

    public int taken(int i, int kind) {
        if (kind < 0 || kind > KINDS) {
            return BAD;
        }
        if (i < 0 || i >= 2 * GUESTS) {
            return OUTSIDE;
        }
        if (!table.seatsOne(i % GUESTS)) {
            return MISSING;
        }
        Guest one = table.guests[i % GUESTS];
        if (i >= GUESTS) {
            return kind != KINDS ? UNLIKE : one.danger ? 1 : 0;
        }
        return kind != KINDS && isOfKind(one.kind, kind) ? i : UNLIKE;
    }

    // ---- what several calls share

    /** What is done in thought is done to a copy. */
    private void think() {
        thought.become(table);
    }

    /** Passes as many minutes in thought as the sheet tells, but ends behind the first that is otherwise. */
    private int firstOther(Sheet tale) {
        for (int i = 0; i < tale.size; i++) {
            if (thought.pass() != tale.numbers[i]) {
                return i;
            }
        }
        return NONE;
    }

    /** Why minutes can't be told by a sheet; 0: they can. */
    private int refusalOfTale(int s) {
        if (!isSheet(s)) {
            return BAD;
        }
        if (sheets[s].sort == NO_SHEET) {
            return MISSING;
        }
        return sheets[s].size > LONGEST_TALE ? BAD : 0;
    }

    /** How many acts are done in a dinner by a seed, which is left standing in thought. */
    private int actsByLots(int seed) {
        think();
        int acts = 0;
        long lot = seed + 1L;
        for (int i = 0; i < DRAWN_MINUTES; i++) {
            lot = lot * LOT_FACTOR % LOT_MODULUS;
            int p = (int) (lot % GUESTS);
            lot = lot * LOT_FACTOR % LOT_MODULUS;
            int a = (int) (lot % ACTS);
            if (thought.seatsOne(p)) {
                thought.guests[p].wrong ^= 1 << a;
            }
            acts += thought.pass();
        }
        return acts;
    }

    private static long partOfFraction(int above, int below, int part) {
        int divisor = 1;
        for (int d = below; d > 1 && divisor == 1; d--) {
            if (above % d == 0 && below % d == 0) {
                divisor = d;
            }
        }
        return (part == 0 ? above : below) / divisor;
    }

    private static boolean isOfKind(int kind, int wanted) {
        int k = kind;
        for (int i = 0; i < KINDS && k >= 0 && k < KINDS; i++) {
            if (k == wanted) {
                return true;
            }
            k = KIND_ABOVE[k];
        }
        return false;
    }

    private static int mostOf(int what) {
        return what == WRONG ? ALL_ACTS : what == DANGER ? 1 : MOST;
    }

    private static boolean holds(int bits, int i) {
        return (bits >> i & 1) == 1;
    }

    private static boolean isByte(int v) {
        return v >= 0 && v <= 255;
    }

    private static boolean isChoice(int what) {
        return what == 0 || what == 1;
    }

    private static boolean isRun(int n) {
        return n >= 0 && n <= LONGEST_RUN;
    }

    private static boolean isSeed(int seed) {
        return seed >= 0 && seed < SEEDS;
    }

    private static boolean isSheet(int s) {
        return s >= 0 && s < SHEETS;
    }

    /** One of the guests. */
    private static final class Guest {
        int kind;
        int more;
        int wrong;
        int shy;
        int bored;
        int ate;
        boolean danger;

        void come(int kindMore, int wrongs, int shyness) {
            kind = kindMore / 10;
            more = kindMore % 10;
            wrong = wrongs;
            shy = shyness;
            bored = 0;
            ate = 0;
            danger = false;
        }

        void become(Guest other) {
            kind = other.kind;
            more = other.more;
            wrong = other.wrong;
            shy = other.shy;
            bored = other.bored;
            ate = other.ate;
            danger = other.danger;
        }

        int stateOf(int what) {
            switch (what) {
                case WRONG: return wrong;
                case SHY: return shy;
                case BORED: return bored;
                case ATE: return ate;
                default: return danger ? 1 : 0;
            }
        }

        void setState(int what, int v) {
            switch (what) {
                case WRONG: wrong = v; break;
                case SHY: shy = v; break;
                case BORED: bored = v; break;
                case ATE: ate = v; break;
                default: danger = v == 1; break;
            }
        }
    }

    /** The guests round a table, the minute and the law there: the true one, one in thought, one kept. */
    private static final class Table {
        final Guest[] guests;
        int seats;
        int now;
        Text law;

        Table(Text law) {
            this.law = law;
            guests = new Guest[GUESTS];
            for (int p = 0; p < GUESTS; p++) {
                guests[p] = new Guest();
            }
        }

        void become(Table other) {
            seats = other.seats;
            now = other.now;
            law = other.law;
            for (int p = 0; p < seats; p++) {
                guests[p].become(other.guests[p]);
            }
        }

        boolean seatsOne(int p) {
            return p >= 0 && p < seats;
        }

        /** Which acts one minds, as bits. */
        int minded(Guest one) {
            boolean timid = law.says(DARES, one, now) < one.shy;
            switch (one.kind) {
                case BRED: return mindedByBred(one, timid);
                case HUNGRY: return mindedByHungry(one, timid);
                case CANDLE: return mindedByBred(one, timid) & (now % 2 == 0 ? EVEN_ACTS : ODD_ACTS);
                case COOK: return now < one.more ? mindedByHungry(one, timid) : 0;
                case WIDOW: return ALL_ACTS;
                default: return timid ? ALL_ACTS : one.wrong;
            }
        }

        private static int mindedByBred(Guest one, boolean timid) {
            return timid ? ALL_ACTS : one.wrong | 1 << one.more;
        }

        private static int mindedByHungry(Guest one, boolean timid) {
            return timid ? one.wrong : 0;
        }

        int eatenBy(Guest one, int a) {
            int eats = law.says(EATS, one, now);
            switch (one.kind) {
                case BRED: case CANDLE: return eats / 2;
                case HUNGRY: case COOK: return eats + a;
                case WIDOW: return 0;
                default: return eats;
            }
        }

        /** Who is told by one who sits there. */
        int toldBy(int p) {
            if (!seatsOne(p)) {
                return p;
            }
            Guest one = guests[p];
            int on = law.says(TELLS, one, now);
            if (one.kind == CANDLE) {
                on = -on;
            }
            if (one.kind == COOK) {
                on += one.more;
            }
            return Math.floorMod(p + on, seats);
        }

        int actOf(Guest one) {
            if (one.danger) {
                return 0;
            }
            int minded = minded(one);
            for (int a = 0; a < ACTS; a++) {
                if (!holds(minded, a)) {
                    return a;
                }
            }
            return NONE;
        }

        boolean isStuck(Guest one) {
            return !one.danger && minded(one) == ALL_ACTS;
        }

        void perform(int p, int a) {
            Guest one = guests[p];
            int eaten = eatenBy(one, a);
            int hearer = toldBy(p);
            one.ate = Math.min(MOST, one.ate + eaten);
            one.wrong |= 1 << a;
            if (hearer != p) {
                guests[hearer].wrong ^= 1 << a;
            }
            one.danger = false;
        }

        /** A minute: how many did an act. */
        int pass() {
            int acts = 0;
            for (int p = 0; p < seats; p++) {
                int a = actOf(guests[p]);
                if (a == NONE) {
                    guests[p].bored = Math.min(MOST, guests[p].bored + 1);
                } else {
                    perform(p, a);
                    acts++;
                }
            }
            now++;
            return acts;
        }

        int stuckBehind(int n) {
            for (int i = 0; i < n; i++) {
                pass();
            }
            return Integer.bitCount(stuckBits());
        }

        int ateBehind(int n) {
            for (int i = 0; i < n; i++) {
                pass();
            }
            return ateTogether();
        }

        void makeRight(int a) {
            for (int p = 0; p < seats; p++) {
                guests[p].wrong &= ~(1 << a);
            }
        }

        void exchange(int a, int b) {
            int wrong = guests[a].wrong;
            guests[a].wrong = guests[b].wrong;
            guests[b].wrong = wrong;
        }

        int stuckBits() {
            int bits = 0;
            for (int p = 0; p < seats; p++) {
                if (isStuck(guests[p])) {
                    bits |= 1 << p;
                }
            }
            return bits;
        }

        int dangerBits() {
            int bits = 0;
            for (int p = 0; p < seats; p++) {
                if (guests[p].danger) {
                    bits |= 1 << p;
                }
            }
            return bits;
        }

        int rightForAnybody() {
            int bits = 0;
            for (int p = 0; p < seats; p++) {
                bits |= ALL_ACTS & ~minded(guests[p]);
            }
            return bits;
        }

        int rightForAll() {
            int bits = ALL_ACTS;
            for (int p = 0; p < seats; p++) {
                bits &= ~minded(guests[p]);
            }
            return bits;
        }

        int ateTogether() {
            int sum = 0;
            for (int p = 0; p < seats; p++) {
                sum += guests[p].ate;
            }
            return sum;
        }

        int boredTogether() {
            int sum = 0;
            for (int p = 0; p < seats; p++) {
                sum += guests[p].bored;
            }
            return sum;
        }
    }

    /** A text as code: numbers and names are piled up, the rest takes from the pile what it joins. */
    private static final class Text {
        final int number;
        final int[] code;
        final int[] starts;
        final Pile pile;

        Text(int number, int[] code, int[] starts, Pile pile) {
            this.number = number;
            this.code = code;
            this.starts = starts;
            this.pile = pile;
        }

        int says(int part, Guest one, int minute) {
            if (part < 0 || part + 1 >= starts.length) {
                return 0;
            }
            pile.height = 0;
            for (int i = starts[part]; i < starts[part + 1] && i < code.length; i++) {
                int c = code[i];
                if (c >= 0) {
                    pile.lay(c);
                } else if (c >= NAME_MORE) {
                    pile.lay(named(c, one, minute));
                } else if (c == NOT) {
                    pile.lay(pile.lift() == 0 ? 1 : 0);
                } else if (c == TURN) {
                    pile.lay(-pile.lift());
                } else {
                    int right = pile.lift();
                    pile.lay(joined(c, pile.lift(), right));
                }
            }
            return Math.max(part == TELLS ? -MOST : 0, Math.min(MOST, pile.lift()));
        }

        private static int named(int name, Guest one, int minute) {
            switch (name) {
                case NAME_SHY: return one.shy;
                case NAME_BORED: return one.bored;
                case NAME_ATE: return one.ate;
                case NAME_MINUTE: return minute;
                case NAME_WRONGS: return Integer.bitCount(one.wrong);
                default: return one.more;
            }
        }

        private static int joined(int by, int left, int right) {
            switch (by) {
                case OR: return left != 0 || right != 0 ? 1 : 0;
                case AND: return left != 0 && right != 0 ? 1 : 0;
                case LESS: return left < right ? 1 : 0;
                case SAME: return left == right ? 1 : 0;
                case PLUS: return left + right;
                case MINUS: return left - right;
                default: return left * right;
            }
        }
    }

    /** Numbers that wait to be joined; with five things open, fewer than half of its places are ever needed. */
    private static final class Pile {
        final int[] numbers;
        int height;

        Pile() {
            numbers = new int[PILE_HEIGHT];
        }

        void lay(int v) {
            if (height >= 0 && height < numbers.length) {
                numbers[height] = v;
                height++;
            }
        }

        int lift() {
            if (height < 1 || height > numbers.length) {
                return 0;
            }
            height--;
            return numbers[height];
        }
    }

    /** The tape, cut into tokens one by one. */
    private static final class Tape {
        final int[] bytes;
        int size;
        int at;
        int token;
        int tokenAt;
        int number;

        Tape() {
            bytes = new int[TAPE_BYTES];
        }

        void add(int b) {
            if (size >= 0 && size < bytes.length) {
                bytes[size] = b;
                size++;
            }
        }

        void start() {
            at = 0;
            next();
        }

        void next() {
            while (at < size && (bytes[at] == 32 || bytes[at] == 10)) {
                at++;
            }
            tokenAt = at;
            if (at >= size) {
                token = END;
            } else if (isLetter(bytes[at])) {
                token = wordToken();
            } else if (isDigit(bytes[at])) {
                token = numberToken();
            } else {
                token = signToken(bytes[at]);
                at++;
            }
        }

        private int wordToken() {
            while (at < size && isLetter(bytes[at])) {
                at++;
            }
            return spells("shy") ? NAME_SHY
                    : spells("bored") ? NAME_BORED
                    : spells("ate") ? NAME_ATE
                    : spells("minute") ? NAME_MINUTE
                    : spells("wrongs") ? NAME_WRONGS
                    : spells("more") ? NAME_MORE
                    : spells("or") ? OR
                    : spells("and") ? AND
                    : spells("not") ? NOT
                    : spells("dares") ? KEY_DARES
                    : spells("eats") ? KEY_EATS
                    : spells("tells") ? KEY_TELLS
                    : NO_TOKEN;
        }

        private boolean spells(String word) {
            if (at - tokenAt != word.length()) {
                return false;
            }
            for (int i = 0; i < word.length(); i++) {
                if (bytes[tokenAt + i] != word.charAt(i)) {
                    return false;
                }
            }
            return true;
        }

        private int numberToken() {
            number = 0;
            while (at < size && isDigit(bytes[at])) {
                number = number * 10 + bytes[at] - '0';
                at++;
            }
            return at - tokenAt > LONGEST_NUMBER ? NO_TOKEN : NUMBER;
        }

        private static int signToken(int b) {
            switch (b) {
                case '(': case ')': case ';': case '+': case '-': case '*': case '<': case '=': return b;
                default: return NO_TOKEN;
            }
        }

        private static boolean isLetter(int b) {
            return b >= 'a' && b <= 'z';
        }

        private static boolean isDigit(int b) {
            return b >= '0' && b <= '9';
        }
    }

    /**
     * Reads a text from the tape into code. Each reading answers whether it went well; if not, the tape's token is the
     * one that can't stand there. "open" is how many of ( , not and - are open around what is read.
     */
    private static final class Reader {
        final Tape tape;
        final int[] code;
        final int[] starts;
        int length;

        Reader(Tape tape) {
            this.tape = tape;
            code = new int[TAPE_BYTES];
            starts = new int[PARTS + 1];
        }

        /** The place of the fault; NONE: there is none, and code, length and starts hold the text. */
        int faultPlace() {
            length = 0;
            tape.start();
            boolean good = readPart(DARES, KEY_DARES) && readPart(EATS, KEY_EATS) && readPart(TELLS, KEY_TELLS);
            starts[PARTS] = length;
            return good && tape.token == END ? NONE : tape.tokenAt;
        }

        private boolean readPart(int part, int key) {
            if (part < 0 || part >= starts.length) {
                return false;
            }
            starts[part] = length;
            return readToken(key) && readOr(0) && readToken(';');
        }

        private boolean readToken(int token) {
            if (tape.token != token) {
                return false;
            }
            tape.next();
            return true;
        }

        private boolean readOr(int open) {
            boolean good = readAnd(open);
            for (int i = 0; i < TAPE_BYTES && good && tape.token == OR; i++) {
                tape.next();
                good = readAnd(open);
                write(OR);
            }
            return good;
        }

        private boolean readAnd(int open) {
            boolean good = readNot(open);
            for (int i = 0; i < TAPE_BYTES && good && tape.token == AND; i++) {
                tape.next();
                good = readNot(open);
                write(AND);
            }
            return good;
        }

        private boolean readNot(int open) {
            boolean good;
            if (tape.token == NOT) {
                if (open >= MOST_OPEN) {
                    return false;
                }
                tape.next();
                good = readNot(open + 1);
                write(NOT);
                return good;
            }
            good = readSum(open);
            int sign = tape.token;
            if (good && (sign == '<' || sign == '=')) {
                tape.next();
                good = readSum(open);
                write(sign == '<' ? LESS : SAME);
            }
            return good;
        }

        private boolean readSum(int open) {
            boolean good = readTerm(open);
            for (int i = 0; i < TAPE_BYTES && good && (tape.token == '+' || tape.token == '-'); i++) {
                int by = tape.token == '+' ? PLUS : MINUS;
                tape.next();
                good = readTerm(open);
                write(by);
            }
            return good;
        }

        private boolean readTerm(int open) {
            boolean good = readOne(open);
            for (int i = 0; i < TAPE_BYTES && good && tape.token == '*'; i++) {
                tape.next();
                good = readOne(open);
                write(TIMES);
            }
            return good;
        }

        private boolean readOne(int open) {
            int token = tape.token;
            if (token == NUMBER || token <= NAME_SHY && token >= NAME_MORE) {
                write(token == NUMBER ? tape.number : token);
                tape.next();
                return true;
            }
            if (token != '(' && token != '-' || open >= MOST_OPEN) {
                return false;
            }
            tape.next();
            if (token == '(') {
                return readOr(open + 1) && readToken(')');
            }
            boolean good = readOne(open + 1);
            write(TURN);
            return good;
        }

        private void write(int c) {
            if (length >= 0 && length < code.length) {
                code[length] = c;
                length++;
            }
        }
    }

    /** A row of numbers, or missing. */
    private static final class Sheet {
        final int[] numbers;
        int sort;
        int size;

        Sheet() {
            numbers = new int[SHEET_NUMBERS];
            sort = NO_SHEET;
        }

        void become(int newSort, int newSize) {
            sort = newSort;
            size = newSize;
            Arrays.fill(numbers, 0);
        }

        void set(int i, int v) {
            if (i >= 0 && i < size) {
                numbers[i] = sort == BYTES ? (byte) v : sort == SHORTS ? (short) v : v;
            }
        }
    }
}
