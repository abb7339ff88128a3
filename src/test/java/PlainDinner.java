import java.util.ArrayDeque;
import java.util.ArrayList;
import java.util.Deque;
import java.util.List;
import java.util.Set;
import java.util.TreeSet;
import java.util.function.Predicate;
import java.util.function.ToIntFunction;

/**
 * The document once more, written apart from the class and in another way: kinds as classes, texts as functions, sets of
 * acts as sets, a fault found by what may stand next, and every table in thought a new one. AgreementTest compares the
 * answers of both.
 */
final class PlainDinner {
    static final long NO = -4611686018427387904L;

    // ---- guests of kinds

    static class Guest {
        int kind;
        int more;
        Set<Integer> wrong = new TreeSet<>();
        int shy;
        int bored;
        int ate;
        boolean danger;

        boolean minds(int a, Seat t) {
            return wrong.contains(a) || t.dares() < shy;
        }

        int eats(int a, Seat t) {
            return t.eats();
        }

        int tells(Seat t) {
            return t.tells();
        }
    }

    static class Bred extends Guest {
        @Override boolean minds(int a, Seat t) {
            return super.minds(a, t) || a == more;
        }

        @Override int eats(int a, Seat t) {
            return super.eats(a, t) / 2;
        }
    }

    static class Hungry extends Guest {
        @Override boolean minds(int a, Seat t) {
            return wrong.contains(a) && t.dares() < shy;
        }

        @Override int eats(int a, Seat t) {
            return super.eats(a, t) + a;
        }
    }

    static class Candle extends Bred {
        @Override boolean minds(int a, Seat t) {
            return t.table.minute % 2 == a % 2 && super.minds(a, t);
        }

        @Override int tells(Seat t) {
            return 0 - super.tells(t);
        }
    }

    static class Cook extends Hungry {
        @Override boolean minds(int a, Seat t) {
            return t.table.minute < more && super.minds(a, t);
        }

        @Override int tells(Seat t) {
            return super.tells(t) + more;
        }
    }

    static class Widow extends Guest {
        @Override boolean minds(int a, Seat t) {
            return true;
        }

        @Override int eats(int a, Seat t) {
            return 0;
        }
    }

    static final List<Class<? extends Guest>> KINDS =
            List.of(Guest.class, Bred.class, Hungry.class, Candle.class, Cook.class, Widow.class);

    static Guest ofKind(int kind) {
        Guest g = kind == 0 ? new Guest() : kind == 1 ? new Bred() : kind == 2 ? new Hungry()
                : kind == 3 ? new Candle() : kind == 4 ? new Cook() : new Widow();
        g.kind = kind;
        return g;
    }

    static Guest like(Guest o, int kind) {
        Guest g = ofKind(kind);
        g.more = o.more;
        g.wrong = new TreeSet<>(o.wrong);
        g.shy = o.shy;
        g.bored = o.bored;
        g.ate = o.ate;
        g.danger = o.danger;
        return g;
    }

    /** One at a table. */
    static final class Seat {
        final Table table;
        final Guest g;

        Seat(Table table, Guest g) {
            this.table = table;
            this.g = g;
        }

        int dares() {
            return Math.max(0, Math.min(99, table.law.parts.get(0).applyAsInt(this)));
        }

        int eats() {
            return Math.max(0, Math.min(99, table.law.parts.get(1).applyAsInt(this)));
        }

        int tells() {
            return Math.max(-99, Math.min(99, table.law.parts.get(2).applyAsInt(this)));
        }
    }

    // ---- the table

    static final class Table {
        List<Guest> all = new ArrayList<>();
        int minute = 0;
        Law law;

        Table anew() {
            Table t = new Table();
            t.minute = minute;
            t.law = law;
            for (Guest g : all) {
                t.all.add(like(g, g.kind));
            }
            return t;
        }

        boolean right(Guest g, int a) {
            return !g.minds(a, new Seat(this, g));
        }

        int theAct(Guest g) {
            for (int a = 0; a < 10; a++) {
                if (g.danger && a == 0 || !g.danger && right(g, a)) {
                    return a;
                }
            }
            return -1;
        }

        boolean stuck(Guest g) {
            return theAct(g) == -1;
        }

        int toldBy(int p) {
            int seat = (p + all.get(p).tells(new Seat(this, all.get(p)))) % all.size();
            return seat < 0 ? seat + all.size() : seat;
        }

        int doOne(int p) {
            Guest g = all.get(p);
            int a = theAct(g);
            if (a < 0) {
                return a;
            }
            int eats = g.eats(a, new Seat(this, g));
            Guest other = all.get(toldBy(p));
            g.ate = Math.min(99, g.ate + eats);
            g.wrong.add(a);
            if (other != g && !other.wrong.remove(a)) {
                other.wrong.add(a);
            }
            g.danger = false;
            return a;
        }

        int doMinute() {
            int acts = 0;
            for (int p = 0; p < all.size(); p++) {
                if (doOne(p) >= 0) {
                    acts++;
                } else {
                    all.get(p).bored = Math.min(99, all.get(p).bored + 1);
                }
            }
            minute++;
            return acts;
        }

        Table behind(int n) {
            for (int i = 0; i < n; i++) {
                doMinute();
            }
            return this;
        }

        int who(Predicate<Guest> p) {
            int bits = 0;
            for (int i = 0; i < all.size(); i++) {
                bits += p.test(all.get(i)) ? 1 << i : 0;
            }
            return bits;
        }

        int stuckOnes() {
            return Integer.bitCount(who(this::stuck));
        }

        int sum(ToIntFunction<Guest> of) {
            return all.stream().mapToInt(of).sum();
        }
    }

    static int bits(Set<Integer> acts) {
        return acts.stream().mapToInt(a -> 1 << a).sum();
    }

    static Set<Integer> acts(int bits) {
        Set<Integer> acts = new TreeSet<>();
        for (int a = 0; a < 10; a++) {
            if ((bits & 1 << a) != 0) {
                acts.add(a);
            }
        }
        return acts;
    }

    // ---- texts

    static final class Law {
        final List<ToIntFunction<Seat>> parts = new ArrayList<>();
    }

    private record Token(String is, String text, int place) {
    }

    private static List<Token> tokens(String s) {
        List<Token> out = new ArrayList<>();
        int i = 0;
        while (i < s.length()) {
            char c = s.charAt(i);
            int j = i + 1;
            if (c == ' ' || c == '\n') {
                i = j;
                continue;
            }
            String is;
            if (c >= 'a' && c <= 'z') {
                while (j < s.length() && s.charAt(j) >= 'a' && s.charAt(j) <= 'z') {
                    j++;
                }
                String w = s.substring(i, j);
                is = Set.of("shy", "bored", "ate", "minute", "wrongs", "more").contains(w) ? "name"
                        : Set.of("dares", "eats", "tells", "and", "or", "not").contains(w) ? w : "fault";
            } else if (c >= '0' && c <= '9') {
                while (j < s.length() && s.charAt(j) >= '0' && s.charAt(j) <= '9') {
                    j++;
                }
                is = j - i > 4 ? "fault" : "number";
            } else {
                is = "();+-*<=".indexOf(c) >= 0 ? "" + c : "fault";
            }
            out.add(new Token(is, s.substring(i, j), i));
            i = j;
        }
        out.add(new Token("end", "", s.length()));
        return out;
    }

    /** The place of the fault, by what may stand next: no grammar is read, a list of what is open is kept. */
    static int fault(String s) {
        List<Token> tokens = tokens(s);
        String[] keys = {"dares", "eats", "tells"};
        int at = 0;
        for (String key : keys) {
            if (!tokens.get(at).is().equals(key)) {
                return tokens.get(at).place();
            }
            at++;
            Deque<String> open = new ArrayDeque<>();
            boolean one = true;         // a ONE must come
            boolean notToo = true;      // a not may come
            boolean compared = false;   // a < or = has come in this NOT
            while (true) {
                Token t = tokens.get(at++);
                String is = t.is();
                if (one) {
                    if (is.equals("number") || is.equals("name")) {
                        one = false;
                        endOf(open, "-");
                    } else if ((is.equals("(") || is.equals("-") || is.equals("not") && notToo) && open.size() < 5) {
                        if (is.equals("(")) {
                            open.push(compared ? "(<" : "(");
                            compared = false;
                        } else {
                            open.push(is);
                        }
                        notToo = !is.equals("-");
                    } else {
                        return t.place();
                    }
                } else if (is.equals("and") || is.equals("or")) {
                    endOf(open, "not");
                    one = true;
                    notToo = true;
                    compared = false;
                } else if (is.equals("+") || is.equals("-") || is.equals("*")) {
                    one = true;
                    notToo = false;
                } else if ((is.equals("<") || is.equals("=")) && !compared) {
                    one = true;
                    notToo = false;
                    compared = true;
                } else if (is.equals(")")) {
                    endOf(open, "not");
                    if (open.isEmpty()) {
                        return t.place();
                    }
                    compared = open.pop().equals("(<");
                    endOf(open, "-");
                } else if (is.equals(";")) {
                    endOf(open, "not");
                    if (!open.isEmpty()) {
                        return t.place();
                    }
                    break;
                } else {
                    return t.place();
                }
            }
        }
        return tokens.get(at).is().equals("end") ? -1 : tokens.get(at).place();
    }

    private static void endOf(Deque<String> open, String what) {
        while (!open.isEmpty() && open.peek().equals(what)) {
            open.pop();
        }
    }

    static Law law(String s) {
        Law law = new Law();
        for (String part : s.split(";")) {
            if (!part.isBlank()) {
                List<Token> tokens = tokens(part);
                law.parts.add(function(tokens, 1, tokens.size() - 1));
            }
        }
        return law;
    }

    /** A function of the tokens from .. to, split at the loosest sign that stands in no brackets. */
    private static ToIntFunction<Seat> function(List<Token> t, int from, int to) {
        int cut = lastOutside(t, from, to, Set.of("or"));
        if (cut >= 0) {
            ToIntFunction<Seat> l = function(t, from, cut);
            ToIntFunction<Seat> r = function(t, cut + 1, to);
            return s -> (l.applyAsInt(s) != 0 ? 1 : 0) | (r.applyAsInt(s) != 0 ? 1 : 0);
        }
        cut = lastOutside(t, from, to, Set.of("and"));
        if (cut >= 0) {
            ToIntFunction<Seat> l = function(t, from, cut);
            ToIntFunction<Seat> r = function(t, cut + 1, to);
            return s -> (l.applyAsInt(s) != 0 ? 1 : 0) & (r.applyAsInt(s) != 0 ? 1 : 0);
        }
        if (t.get(from).is().equals("not")) {
            ToIntFunction<Seat> r = function(t, from + 1, to);
            return s -> r.applyAsInt(s) == 0 ? 1 : 0;
        }
        cut = lastOutside(t, from, to, Set.of("<", "="));
        if (cut >= 0) {
            boolean less = t.get(cut).is().equals("<");
            ToIntFunction<Seat> l = function(t, from, cut);
            ToIntFunction<Seat> r = function(t, cut + 1, to);
            return s -> (less ? l.applyAsInt(s) < r.applyAsInt(s) : l.applyAsInt(s) == r.applyAsInt(s)) ? 1 : 0;
        }
        cut = lastOutside(t, from, to, Set.of("+", "-"));
        if (cut >= 0) {
            boolean plus = t.get(cut).is().equals("+");
            ToIntFunction<Seat> l = function(t, from, cut);
            ToIntFunction<Seat> r = function(t, cut + 1, to);
            return s -> l.applyAsInt(s) + (plus ? r.applyAsInt(s) : -r.applyAsInt(s));
        }
        cut = lastOutside(t, from, to, Set.of("*"));
        if (cut >= 0) {
            ToIntFunction<Seat> l = function(t, from, cut);
            ToIntFunction<Seat> r = function(t, cut + 1, to);
            return s -> l.applyAsInt(s) * r.applyAsInt(s);
        }
        if (t.get(from).is().equals("-")) {
            ToIntFunction<Seat> r = function(t, from + 1, to);
            return s -> -r.applyAsInt(s);
        }
        if (t.get(from).is().equals("(")) {
            return function(t, from + 1, to - 1);
        }
        String text = t.get(from).text();
        return s -> switch (text) {
            case "shy" -> s.g.shy;
            case "bored" -> s.g.bored;
            case "ate" -> s.g.ate;
            case "minute" -> s.table.minute;
            case "wrongs" -> s.g.wrong.size();
            case "more" -> s.g.more;
            default -> Integer.parseInt(text);
        };
    }

    private static int lastOutside(List<Token> t, int from, int to, Set<String> signs) {
        int inside = 0;
        for (int i = to - 1; i > from; i--) {
            String is = t.get(i).is();
            inside += is.equals(")") ? 1 : is.equals("(") ? -1 : 0;
            boolean joins = !is.equals("-") || Set.of("number", "name", ")").contains(t.get(i - 1).is());
            if (inside == 0 && signs.contains(is) && joins) {
                return i;
            }
        }
        return -1;
    }

    // ---- the calls

    Table table = new Table();
    Table image = null;
    final List<Law> texts = new ArrayList<>();
    String tape = "";
    /** A sheet is an array of bytes, shorts or ints, or null. */
    final Object[] sheets = new Object[4];

    PlainDinner() {
        texts.add(law("dares 99;eats 1;tells 1;"));
        table.law = texts.get(0);
    }

    private boolean no(int p) {
        return p < 0 || p >= table.all.size();
    }

    private static boolean in(int v, int least, int most) {
        return v >= least && v <= most;
    }

    int count(int what) {
        int[] all = {table.all.size(), table.minute, table.stuckOnes(), texts.size(), texts.indexOf(table.law), tape.length()};
        return in(what, 0, 5) ? all[what] : -2;
    }

    int clock(int v) {
        int was = table.minute;
        if (!in(v, 0, 999)) {
            return -2;
        }
        table.minute = v;
        return was;
    }

    int feed(int n, int... five) {
        if (!in(n, 1, 5) || java.util.Arrays.stream(five).anyMatch(b -> !in(b, 0, 255))) {
            return -2;
        }
        String more = "";
        for (int i = 0; i < n; i++) {
            more += (char) five[i];
        }
        if ((tape + more).length() > 160) {
            return -4;
        }
        tape += more;
        return tape.length();
    }

    int text() {
        if (texts.size() == 6) {
            return -4;
        }
        String s = tape;
        tape = "";
        int fault = fault(s);
        if (fault >= 0) {
            return -100 - fault;
        }
        texts.add(law(s));
        return texts.size() - 1;
    }

    int force(int t) {
        int was = texts.indexOf(table.law);
        if (!in(t, 0, texts.size() - 1)) {
            return -2;
        }
        table.law = texts.get(t);
        return was;
    }

    int asks(int part, int p) {
        if (no(p) || !in(part, 0, 2)) {
            return -1000;
        }
        Seat s = new Seat(table, table.all.get(p));
        return part == 0 ? s.dares() : part == 1 ? s.eats() : s.tells();
    }

    int guest(int kindMore, int wrongs, int shyness) {
        if (!in(kindMore, 0, 59) || !in(wrongs, 0, 1023) || !in(shyness, 0, 99)) {
            return -2;
        }
        if (table.all.size() == 6) {
            return -4;
        }
        Guest g = ofKind(kindMore / 10);
        g.more = kindMore % 10;
        g.wrong = acts(wrongs);
        g.shy = shyness;
        table.all.add(g);
        return table.all.size() - 1;
    }

    private static int state(Guest g, int what) {
        return new int[] {bits(g.wrong), g.shy, g.bored, g.ate, g.danger ? 1 : 0}[what];
    }

    private static void become(Guest g, int what, int v) {
        switch (what) {
            case 0 -> g.wrong = acts(v);
            case 1 -> g.shy = v;
            case 2 -> g.bored = v;
            case 3 -> g.ate = v;
            default -> g.danger = v > 0;
        }
    }

    int put(int p, int what, int v) {
        if (no(p)) {
            return -5;
        }
        if (!in(what, 0, 4) || !in(v, 0, new int[] {1023, 99, 99, 99, 1}[what])) {
            return -7;
        }
        int was = state(table.all.get(p), what);
        become(table.all.get(p), what, v);
        return was;
    }

    int told(int p, int what) {
        if (no(p)) {
            return -5;
        }
        Guest g = table.all.get(p);
        return in(what, 0, 4) ? state(g, what) : what == 5 ? g.kind : what == 6 ? g.more : what == 7 ? table.theAct(g)
                : what == 8 ? (table.stuck(g) ? 1 : 0) : what == 9 ? table.toldBy(p) : -7;
    }

    int manners(int p, int a, int what) {
        if (no(p)) {
            return -5;
        }
        if (!in(a, 0, 9)) {
            return -6;
        }
        Guest g = table.all.get(p);
        return what == 0 ? (table.right(g, a) ? 1 : 0) : what == 1 ? g.eats(a, new Seat(table, g)) : -7;
    }

    int dinner(int what) {
        int anybody = 0;
        int all = 0;
        for (int a = 0; a < 10; a++) {
            int act = a;
            int whose = table.who(g -> table.right(g, act));
            anybody |= whose != 0 ? 1 << a : 0;
            all |= whose == (1 << table.all.size()) - 1 ? 1 << a : 0;
        }
        int[] out = {table.who(table::stuck), table.who(g -> g.danger), anybody, all, table.sum(g -> g.ate)};
        return in(what, 0, 4) ? out[what] : -2;
    }

    int minute() {
        return table.minute == 999 ? -3 : table.doMinute();
    }

    int act(int p) {
        if (no(p)) {
            return -5;
        }
        int a = table.doOne(p);
        return a < 0 ? -3 : a;
    }

    private static void exchange(Table t, int a, int b) {
        Set<Integer> w = t.all.get(a).wrong;
        t.all.get(a).wrong = t.all.get(b).wrong;
        t.all.get(b).wrong = w;
    }

    int swap(int a, int b) {
        if (no(a) || no(b) || a == b) {
            return -5;
        }
        exchange(table, a, b);
        return bits(table.all.get(a).wrong);
    }

    int run(int n, int what) {
        if (!in(n, 0, 40) || !in(what, 0, 2) && (!in(what, 10, 39) || no(what % 10))) {
            return -2;
        }
        Table t = table.anew();
        int acts = 0;
        for (int i = 0; i < n; i++) {
            acts += t.doMinute();
        }
        if (what >= 10) {
            Guest g = t.all.get(what % 10);
            return what < 20 ? bits(g.wrong) : what < 30 ? g.ate : g.bored;
        }
        return what == 0 ? t.who(t::stuck) : what == 1 ? acts : t.sum(g -> g.ate);
    }

    int when(int what) {
        if (!in(what, 0, 7) || what < 6 && no(what)) {
            return -5;
        }
        for (int n = 0; n <= 60; n++) {
            Table t = table.anew().behind(n);
            int stuck = t.stuckOnes();
            if (what == 6 ? stuck == t.all.size() : what == 7 ? stuck == 0 : t.stuck(t.all.get(what))) {
                return n;
            }
        }
        return -1;
    }

    int poker(int n, int what) {
        if (!in(n, 0, 40) || !in(what, 0, 1)) {
            return -2;
        }
        int[] by = new int[11];
        for (int a = 0; a <= 10; a++) {
            Table t = table.anew();
            for (Guest g : t.all) {
                g.wrong.remove(a);
            }
            by[a] = t.behind(n).stuckOnes();
        }
        int least = java.util.Arrays.stream(by).min().getAsInt();
        for (int a = 0; a < 10 && what == 0; a++) {
            if (by[a] == least && least < by[10]) {
                return a;
            }
        }
        return what == 0 ? -1 : least;
    }

    int forgive(int p, int what) {
        if (no(p)) {
            return -5;
        }
        if (!in(what, 0, 1)) {
            return -7;
        }
        for (int size = 0; size <= 10; size++) {
            for (int set = 0; set < 1024; set++) {
                Table t = table.anew();
                Guest g = t.all.get(p);
                if (acts(set).size() == size && g.wrong.containsAll(acts(set))) {
                    g.wrong.removeAll(acts(set));
                    if (!t.stuck(g)) {
                        return what == 0 ? set : size;
                    }
                }
            }
        }
        return -1;
    }

    int alarm(int n, int what) {
        if (!in(n, 0, 40) || !in(what, 0, 1)) {
            return -2;
        }
        int so = table.anew().behind(n).sum(g -> g.ate);
        int most = so;
        int who = -1;
        for (int p = table.all.size() - 1; p >= 0; p--) {
            Table t = table.anew();
            t.all.get(p).danger = true;
            int ate = t.behind(n).sum(g -> g.ate);
            if (!table.all.get(p).danger && ate > so && ate >= most) {
                most = ate;
                who = p;
            }
        }
        return what == 0 ? who : most;
    }

    int change(int n, int what) {
        if (!in(n, 0, 40) || !in(what, 0, 1)) {
            return -2;
        }
        int least = table.anew().behind(n).stuckOnes();
        int who = -1;
        for (int pair = 0; pair < 60; pair++) {
            int a = pair / 10;
            int b = pair % 10;
            if (a < b && !no(a) && !no(b)) {
                Table t = table.anew();
                exchange(t, a, b);
                int stuck = t.behind(n).stuckOnes();
                if (stuck < least) {
                    least = stuck;
                    who = pair;
                }
            }
        }
        return what == 0 ? who : least;
    }

    int bold(int p) {
        if (no(p)) {
            return -5;
        }
        int greatest = -1;
        for (int shy = 0; shy < 100; shy++) {
            Table t = table.anew();
            t.all.get(p).shy = shy;
            greatest = t.stuck(t.all.get(p)) ? greatest : shy;
        }
        return greatest;
    }

    private static long lowest(int above, int below, int part) {
        int d = java.math.BigInteger.valueOf(above).gcd(java.math.BigInteger.valueOf(below)).intValue();
        return part == 0 ? above / d : below / d;
    }

    long mean(int part) {
        return !in(part, 0, 1) || table.all.isEmpty() ? NO : lowest(table.sum(g -> g.bored), table.all.size(), part);
    }

    private static int size(Object sheet) {
        return java.lang.reflect.Array.getLength(sheet);
    }

    private int refused(int s) {
        return !in(s, 0, 3) ? -2 : sheets[s] == null ? -11 : size(sheets[s]) > 20 ? -2 : 0;
    }

    private int other(int s, Table t) {
        for (int i = 0; i < size(sheets[s]); i++) {
            if (java.lang.reflect.Array.getInt(sheets[s], i) != t.doMinute()) {
                return i;
            }
        }
        return -1;
    }

    int judge(int s) {
        return refused(s) != 0 ? refused(s) : other(s, table.anew());
    }

    int kinds(int s, int p, int sort) {
        if (refused(s) != 0 || no(p) || !in(sort, 0, 1)) {
            return refused(s) != 0 ? refused(s) : no(p) ? -5 : -7;
        }
        int bits = 0;
        for (int v = 0; v < (sort == 0 ? 6 : 10); v++) {
            Table t = table.anew();
            if (sort == 0) {
                t.all.set(p, like(t.all.get(p), v));
            } else {
                t.all.get(p).more = v;
            }
            bits |= other(s, t) == -1 ? 1 << v : 0;
        }
        return bits;
    }

    int turned(int s, int p) {
        if (refused(s) != 0 || no(p)) {
            return refused(s) != 0 ? refused(s) : -5;
        }
        int bits = 0;
        for (int a = 0; a < 10; a++) {
            Table t = table.anew();
            if (!t.all.get(p).wrong.remove(a)) {
                t.all.get(p).wrong.add(a);
            }
            bits |= other(s, t) == -1 ? 1 << a : 0;
        }
        return bits;
    }

    int states(int s, int p, int sort, int what) {
        if (refused(s) != 0 || no(p) || !in(sort, 1, 2) || !in(what, 0, 1)) {
            return refused(s) != 0 ? refused(s) : no(p) ? -5 : -7;
        }
        List<Integer> fit = new ArrayList<>();
        for (int v = 0; v < 100; v++) {
            Table t = table.anew();
            become(t.all.get(p), sort, v);
            if (other(s, t) == -1) {
                fit.add(v);
            }
        }
        return what == 0 ? fit.size() : fit.isEmpty() ? -1 : fit.get(0);
    }

    int feared(int s) {
        if (refused(s) != 0) {
            return refused(s);
        }
        int bits = 0;
        for (int p = 0; p < table.all.size(); p++) {
            Table t = table.anew();
            t.all.get(p).danger ^= true;
            bits |= other(s, t) == -1 ? 1 << p : 0;
        }
        return bits;
    }

    int laws(int s) {
        if (refused(s) != 0) {
            return refused(s);
        }
        int bits = 0;
        for (Law law : texts) {
            Table t = table.anew();
            t.law = law;
            bits |= other(s, t) == -1 ? 1 << texts.indexOf(law) : 0;
        }
        return bits;
    }

    int film(int s, int n) {
        if (!in(s, 0, 3) || !in(n, 0, 20)) {
            return !in(s, 0, 3) ? -2 : -7;
        }
        byte[] made = new byte[n];
        Table t = table.anew();
        for (int i = 0; i < n; i++) {
            made[i] = (byte) t.doMinute();
        }
        sheets[s] = made;
        return n;
    }

    private Table byLots(int seed, int[] acts) {
        Table t = table.anew();
        long lot = (seed + 1L) * 48271L % 2147483647L;
        for (int i = 0; i < 12; i++) {
            int p = (int) (lot % 6);
            lot = lot * 48271L % 2147483647L;
            Integer a = (int) (lot % 10);
            lot = lot * 48271L % 2147483647L;
            if (p < t.all.size() && !t.all.get(p).wrong.remove(a)) {
                t.all.get(p).wrong.add(a);
            }
            acts[0] += t.doMinute();
        }
        return t;
    }

    int drawn(int seed, int what) {
        if (!in(seed, 0, 99999) || !in(what, 0, 1)) {
            return -2;
        }
        int[] acts = {0};
        Table t = byLots(seed, acts);
        return what == 0 ? acts[0] : t.who(t::stuck);
    }

    long odds(int seed, int seeds, int least, int part) {
        if (!in(seed, 0, 99999) || !in(seeds, 1, 40) || !in(least, 0, 72) || !in(part, 0, 1)) {
            return NO;
        }
        int enough = 0;
        for (int s = seed; s < seed + seeds; s++) {
            int[] acts = {0};
            byLots(s, acts);
            enough += acts[0] >= least ? 1 : 0;
        }
        return lowest(enough, seeds, part);
    }

    int image() {
        image = table.anew();
        return image.all.size();
    }

    int back() {
        if (image == null) {
            return -3;
        }
        table = image.anew();
        return table.all.size();
    }

    int sheet(int s, int sort, int n) {
        if (!in(s, 0, 3) || !in(sort, -1, 2) || sort >= 0 && n > 40) {
            return -2;
        }
        if (sort >= 0 && n < 0) {
            return -14;
        }
        sheets[s] = sort == 0 ? new byte[n] : sort == 1 ? new short[n] : sort == 2 ? new int[n] : null;
        return 1;
    }

    int cell(int s, int i, int v) {
        if (!in(s, 0, 3)) {
            return -2;
        }
        if (sheets[s] == null) {
            return -11;
        }
        if (!in(i, 0, size(sheets[s]) - 1)) {
            return -12;
        }
        if (sheets[s] instanceof byte[] b) {
            b[i] = (byte) v;
        } else if (sheets[s] instanceof short[] b) {
            b[i] = (short) v;
        } else {
            ((int[]) sheets[s])[i] = v;
        }
        return 1;
    }

    int copy(int s, int i, int other, int j, int n) {
        if (!in(s, 0, 3) || !in(other, 0, 3)) {
            return -2;
        }
        if (sheets[s] == null || sheets[other] == null) {
            return -11;
        }
        if (sheets[s].getClass() != sheets[other].getClass()) {
            return -13;
        }
        try {
            System.arraycopy(sheets[s], i, sheets[other], j, n);
        } catch (IndexOutOfBoundsException e) {
            return -12;
        }
        return n;
    }

    int guestsBy(int s, int sort, int from, int n) {
        if (!in(s, 0, 3) || !in(sort, 0, 2) || !in(n, 0, 6)) {
            return -2;
        }
        if (sheets[s] == null) {
            return -11;
        }
        if (sheets[s].getClass() != List.of(byte[].class, short[].class, int[].class).get(sort)) {
            return -13;
        }
        int came = 0;
        for (int k = 0; k < n; k++) {
            int[] three = new int[3];
            for (int m = 0; m < 3; m++) {
                long at = (long) from + 3 * k + m;
                if (at < 0 || at >= size(sheets[s])) {
                    return -12;
                }
                three[m] = java.lang.reflect.Array.getInt(sheets[s], (int) at);
            }
            came += guest(three[0], three[1], three[2]) >= 0 ? 1 : 0;
        }
        return came;
    }

    int taken(int i, int kind) {
        if (!in(kind, 0, 6)) {
            return -2;
        }
        if (!in(i, 0, 11)) {
            return -12;
        }
        if (no(i % 6)) {
            return -11;
        }
        Object there = i < 6 ? table.all.get(i) : (Object) table.all.get(i - 6).danger;
        if (kind == 6) {
            return there instanceof Boolean b ? (b ? 1 : 0) : -13;
        }
        return KINDS.get(kind).isInstance(there) ? i : -13;
    }
}
