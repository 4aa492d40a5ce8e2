import java.util.ArrayDeque;
import java.util.ArrayList;
import java.util.Deque;
import java.util.HashMap;
import java.util.List;
import java.util.Map;
import java.util.NoSuchElementException;
import java.util.Set;
import java.util.function.IntPredicate;

/** The document told a second time, in other ways than the class's: FuzzTest lets both answer the same calls. */
final class Model {
    static final class Fault extends RuntimeException {
        final int kind;
        final int place;

        Fault(int kind, int place) {
            this.kind = kind;
            this.place = place;
        }
    }

    record Fig(String name, int quarters, int cells) {
        int cost() {
            return quarters + cells == 0 ? 1 : quarters + cells;
        }
    }

    record Pt(String name, int x, int y, int up) {
    }

    record Per(String name, int x, int y, int up, int breath, int most, Set<Integer> came, int said) {
        Per breath(int b) {
            return new Per(name, x, y, up, b, most, came, said);
        }
    }

    record Token(String text, int place) {
        boolean number() {
            return text.matches("[0-9]{1,3}");
        }

        boolean name() {
            return text.matches("[a-z]{1,7}") && !RESERVED.contains(text);
        }
    }

    static final Set<String> RESERVED = Set.of("downs", "wall", "figure", "person", "point", "says", "kicks",
        "rests", "hour", "east", "south", "west", "north", "or", "and", "not", "upright", "spent", "settled",
        "has", "by", "breath", "up", "said", "number");
    static final List<String> SIDES = List.of("east", "south", "west", "north");

    static final class W {
        int wide = 6;
        int high = 6;
        int hour;
        int kicks;
        Map<Integer, Integer> walls = new HashMap<>();
        List<Fig> figs = new ArrayList<>();
        List<Per> pers = new ArrayList<>();
        List<Pt> pts = new ArrayList<>();

        W copy() {
            W w = new W();
            w.wide = wide;
            w.high = high;
            w.hour = hour;
            w.kicks = kicks;
            w.walls = new HashMap<>(walls);
            w.figs = new ArrayList<>(figs);
            w.pers = new ArrayList<>(pers);
            w.pts = new ArrayList<>(pts);
            return w;
        }

        boolean in(int x, int y) {
            return x >= 0 && y >= 0 && x < wide && y < high;
        }

        int wall(int x, int y) {
            return in(x, y) ? walls.getOrDefault(100 * x + y, 0) : 0;
        }

        int who(int x, int y) {
            for (int p = 0; p < pers.size(); p++) {
                if (pers.get(p).x == x && pers.get(p).y == y) {
                    return p;
                }
            }
            return -1;
        }

        Per met(Per a) {
            Set<Integer> came = new java.util.HashSet<>(a.came);
            for (int q = 0; q < pts.size(); q++) {
                Pt t = pts.get(q);
                if (t.x == a.x && t.y == a.y && t.up == a.up) {
                    came.add(q);
                }
            }
            return new Per(a.name, a.x, a.y, a.up, a.breath, a.most, came, a.said);
        }

        int say(int p, int f, int side, boolean really) {
            Per a = pers.get(p);
            Fig g = figs.get(f);
            boolean rim = false;
            boolean wall = false;
            boolean man = false;
            int x = a.x;
            int y = a.y;
            for (int k = 0; k < g.cells; k++) {
                x += dx(side);
                y += dy(side);
                rim |= !in(x, y);
                wall |= wall(x, y) > 0;
                man |= in(x, y) && who(x, y) >= 0;
            }
            int why = a.breath < g.cost() ? 1 : rim ? 2 : wall ? 3 : man ? 4 : 0;
            if (why == 0 && really) {
                pers.set(p, met(new Per(a.name, x, y, (a.up + g.quarters) % 4, a.breath - g.cost(), a.most,
                    a.came, a.said + 1)));
            }
            return why;
        }

        int kick(int p, int side) {
            Per a = pers.get(p);
            int x = a.x + dx(side);
            int y = a.y + dy(side);
            if (a.breath == 0) {
                return 1;
            }
            if (wall(x, y) == 0) {
                return 2;
            }
            walls.merge(100 * x + y, -1, Integer::sum);
            pers.set(p, a.breath(a.breath - 1));
            kicks++;
            return 0;
        }

        int rest(int p) {
            Per a = pers.get(p);
            if (a.breath == a.most) {
                return 1;
            }
            pers.set(p, a.breath(a.most));
            return 0;
        }

        boolean goHour() {
            if (hour == 400) {
                return false;
            }
            hour++;
            pers.replaceAll(a -> a.breath(a.breath < a.most ? a.breath + 1 : a.most));
            return true;
        }

        int drawn(int n, int seed) {
            int[] x = {seed};
            int went = 0;
            while (went < n && hour < 400) {
                for (int p = 0; p < pers.size(); p++) {
                    int d = draw(x, 8);
                    if (d < 4 && !figs.isEmpty()) {
                        say(p, draw(x, figs.size()), d, true);
                    } else if (d == 4 || d == 5) {
                        kick(p, draw(x, 4));
                    } else if (d == 6) {
                        rest(p);
                    }
                }
                goHour();
                went++;
            }
            return went;
        }

        static int draw(int[] x, int n) {
            x[0] = (int) (x[0] * 1103515245L + 12345L);
            return (x[0] >>> 8) % n;
        }

        int settled() {
            return bits(p -> pers.get(p).came.size() == pts.size());
        }

        int bits(IntPredicate holds) {
            int b = 0;
            for (int p = 0; p < pers.size(); p++) {
                b |= holds.test(p) ? 1 << p : 0;
            }
            return b;
        }

        /** Figures still needed from each stand to the goal, by going over all stands till nothing changes. */
        int[][][] needs(Set<Integer> movers, int gx, int gy, int gup) {
            int[][][] need = new int[wide][high][4];
            for (int[][] a : need) {
                for (int[] b : a) {
                    java.util.Arrays.fill(b, 9999);
                }
            }
            if (!shut(movers, gx, gy)) {
                need[gx][gy][gup] = 0;
            }
            boolean changed = true;
            while (changed) {
                changed = false;
                for (int x = 0; x < wide; x++) {
                    for (int y = 0; y < high; y++) {
                        for (int up = 0; up < 4; up++) {
                            for (int m = 0; m < 4 * figs.size(); m++) {
                                int[] to = moved(movers, x, y, up, m);
                                if (to != null && need[to[0]][to[1]][to[2]] + 1 < need[x][y][up]) {
                                    need[x][y][up] = need[to[0]][to[1]][to[2]] + 1;
                                    changed = true;
                                }
                            }
                        }
                    }
                }
            }
            return need;
        }

        boolean shut(Set<Integer> movers, int x, int y) {
            return !in(x, y) || wall(x, y) > 0 || who(x, y) >= 0 && !movers.contains(who(x, y));
        }

        int[] moved(Set<Integer> movers, int x, int y, int up, int m) {
            Fig g = figs.get(m / 4);
            for (int k = 1; k <= g.cells; k++) {
                if (shut(movers, x + k * dx(m % 4), y + k * dy(m % 4))) {
                    return null;
                }
            }
            return new int[] {x + g.cells * dx(m % 4), y + g.cells * dy(m % 4), (up + g.quarters) % 4};
        }
    }

    static int dx(int side) {
        return side == 0 ? 1 : side == 2 ? -1 : 0;
    }

    static int dy(int side) {
        return side == 1 ? 1 : side == 3 ? -1 : 0;
    }

    String tape = "";
    W w = new W();
    IntPredicate sentence;
    int fault;
    Deque<W> history = new ArrayDeque<>();
    List<Integer> way = List.of();
    List<Integer> undoes = List.of();
    List<List<Integer>> track = List.of();
    String slip = "";
    int[] told;
    W[] imageW = new W[2];
    IntPredicate[] imageS = new IntPredicate[2];

    // ---- texts

    List<Token> tokens;
    int next;
    int ones;

    void start(int most) {
        tokens = new ArrayList<>();
        next = 0;
        fault = 0;
        int i = 0;
        while (true) {
            while (i < tape.length() && (tape.charAt(i) == 32 || tape.charAt(i) == 10)) {
                i++;
            }
            if (i >= most && tape.length() > most) {
                tokens.add(new Token("?", most));
                return;
            }
            if (i >= tape.length()) {
                tokens.add(new Token("", tape.length()));
                return;
            }
            int e = i;
            while (e < tape.length() && ("" + tape.charAt(e)).matches("[a-z0-9]")) {
                e++;
            }
            String t = tape.substring(i, e == i ? i + 1 : e);
            boolean good = t.matches("[a-z]{1,7}|[0-9]{1,3}|[;<=>()]");
            tokens.add(new Token(good ? t : "?", i));
            if (!good) {
                return;
            }
            i += t.length();
        }
    }

    Token peek() {
        return tokens.get(Math.min(next, tokens.size() - 1));
    }

    Token take(boolean can) {
        Token t = peek();
        if (!can) {
            throw new Fault(1, t.place);
        }
        next++;
        return t;
    }

    Token take(String... any) {
        return take(List.of(any).contains(peek().text));
    }

    int number(int low, int high) {
        Token t = take(peek().number());
        int n = Integer.parseInt(t.text);
        if (n < low || n > high) {
            throw new Fault(2, t.place);
        }
        return n;
    }

    static int find(List<?> rows, String name) {
        for (int k = 0; k < rows.size(); k++) {
            Object o = rows.get(k);
            String n = o instanceof Fig f ? f.name : o instanceof Per p ? p.name : ((Pt) o).name;
            if (n.equals(name)) {
                return k;
            }
        }
        return -1;
    }

    int known(List<?> rows) {
        Token t = take(peek().name());
        int k = find(rows, t.text);
        if (k < 0) {
            throw new Fault(3, t.place);
        }
        return k;
    }

    String fresh(W v) {
        Token t = take(peek().name());
        if (find(v.figs, t.text) >= 0 || find(v.pers, t.text) >= 0 || find(v.pts, t.text) >= 0) {
            throw new Fault(3, t.place);
        }
        return t.text;
    }

    int freeY(W v, int x) {
        int place = peek().place;
        int y = number(0, v.high - 1);
        if (v.wall(x, y) > 0 || v.who(x, y) >= 0) {
            throw new Fault(3, place);
        }
        return y;
    }

    int downs() {
        W v = new W();
        int lines = 0;
        boolean sized = false;
        boolean placed = false;
        try {
            start(900);
            while (!peek().text.isEmpty()) {
                Token t = take("downs", "wall", "figure", "person", "point");
                if (t.text.equals("downs") && (sized || placed)) {
                    throw new Fault(3, t.place);
                }
                if (t.text.equals("figure") && v.figs.size() == 6 || t.text.equals("person") && v.pers.size() == 5
                        || t.text.equals("point") && v.pts.size() == 5) {
                    throw new Fault(4, t.place);
                }
                sized |= t.text.equals("downs");
                placed |= !t.text.equals("downs") && !t.text.equals("figure");
                downsLine(v, t.text);
                take(";");
                lines++;
            }
            v.pers.replaceAll(v::met);
        } catch (Fault f) {
            tape = "";
            fault = f.kind;
            return -1 - f.place;
        }
        tape = "";
        w = v;
        sentence = null;
        history.clear();
        return lines;
    }

    void downsLine(W v, String sort) {
        switch (sort) {
            case "downs" -> {
                v.wide = number(2, 9);
                v.high = number(2, 9);
            }
            case "wall" -> {
                int x = number(0, v.wide - 1);
                int y = freeY(v, x);
                v.walls.put(100 * x + y, number(1, 9));
            }
            case "figure" -> v.figs.add(new Fig(fresh(v), number(0, 7), number(0, 5)));
            case "person" -> {
                String name = fresh(v);
                int x = number(0, v.wide - 1);
                int y = freeY(v, x);
                int up = number(0, 3);
                int breath = number(1, 60);
                v.pers.add(new Per(name, x, y, up, breath, breath, Set.of(), 0));
            }
            default -> v.pts.add(new Pt(fresh(v), number(0, v.wide - 1), number(0, v.high - 1), number(0, 3)));
        }
    }

    int book(int lives) {
        if (lives < 0 || lives > 1) {
            return -1000;
        }
        List<java.util.function.ToIntFunction<W>> acts = new ArrayList<>();
        try {
            start(400);
            while (!peek().text.isEmpty()) {
                Token t = take(peek().name() || peek().text.equals("hour"));
                int p = t.text.equals("hour") ? -1 : find(w.pers, t.text);
                if (p < 0 && !t.text.equals("hour")) {
                    throw new Fault(3, t.place);
                }
                if (acts.size() == 40) {
                    throw new Fault(4, t.place);
                }
                acts.add(p < 0 ? hourLine() : deedLine(p));
                take(";");
            }
        } catch (Fault f) {
            tape = "";
            fault = f.kind;
            return -2 - f.place;
        }
        tape = "";
        W v = w.copy();
        int why = 0;
        int right = 0;
        while (right < acts.size() && why == 0) {
            why = acts.get(right).applyAsInt(v);
            right += why == 0 ? 1 : 0;
        }
        told = new int[] {why, right, v.hour, v.settled()};
        if (lives == 1 && right > 0) {
            keep();
            w = v;
        }
        return why == 0 ? -1 : right;
    }

    java.util.function.ToIntFunction<W> hourLine() {
        int n = number(1, 60);
        return v -> {
            if (v.hour + n > 400) {
                return 31;
            }
            for (int k = 0; k < n; k++) {
                v.goHour();
            }
            return 0;
        };
    }

    java.util.function.ToIntFunction<W> deedLine(int p) {
        String deed = take("says", "kicks", "rests").text;
        if (deed.equals("rests")) {
            return v -> v.rest(p) * 21;
        }
        int f = deed.equals("says") ? known(w.figs) : -1;
        int side = SIDES.indexOf(take("east", "south", "west", "north").text);
        if (f >= 0) {
            return v -> v.say(p, f, side, true);
        }
        return v -> {
            int k = v.kick(p, side);
            return k == 0 ? 0 : 10 + k;
        };
    }

    int sentence() {
        IntPredicate s;
        try {
            start(200);
            ones = 0;
            s = cond(0);
            take("");
        } catch (Fault f) {
            tape = "";
            fault = f.kind;
            return -1 - f.place;
        }
        tape = "";
        sentence = s;
        return ones;
    }

    IntPredicate cond(int within) {
        IntPredicate s = all(within);
        while (peek().text.equals("or")) {
            take(true);
            s = s.or(all(within));
        }
        return s;
    }

    IntPredicate all(int within) {
        IntPredicate s = one(within);
        while (peek().text.equals("and")) {
            take(true);
            s = s.and(one(within));
        }
        return s;
    }

    IntPredicate one(int within) {
        Token t = take("not", "(", "upright", "spent", "settled", "has", "by", "breath", "up", "said", "number");
        if (++ones > 20 || within == 8) {
            throw new Fault(4, t.place);
        }
        switch (t.text) {
            case "not":
                return one(within + 1).negate();
            case "(":
                IntPredicate inner = cond(within + 1);
                take(")");
                return inner;
            case "upright":
                return p -> w.pers.get(p).up == 0;
            case "spent":
                return p -> w.pers.get(p).breath == 0;
            case "settled":
                return p -> w.pers.get(p).came.size() == w.pts.size();
            case "has":
                int q = known(w.pts);
                return p -> w.pers.get(p).came.contains(q);
            case "by":
                int o = known(w.pers);
                return p -> {
                    Per a = w.pers.get(p);
                    Per b = w.pers.get(o);
                    return a.x == b.x && (a.y == b.y + 1 || a.y == b.y - 1)
                        || a.y == b.y && (a.x == b.x + 1 || a.x == b.x - 1);
                };
            default:
                String sign = take("<", "=", ">").text;
                int n = number(0, 999);
                return p -> {
                    Per a = w.pers.get(p);
                    int v = t.text.equals("breath") ? a.breath : t.text.equals("up") ? a.up
                        : t.text.equals("said") ? a.said : p;
                    return sign.equals("<") ? v < n : sign.equals(">") ? v > n : v == n;
                };
        }
    }

    // ---- the other calls

    void keep() {
        history.push(w.copy());
        if (history.size() > 8) {
            history.removeLast();
        }
    }

    boolean per(int p) {
        return p >= 0 && p < w.pers.size();
    }

    boolean fig(int f) {
        return f >= 0 && f < w.figs.size();
    }

    boolean pt(int q) {
        return q >= 0 && q < w.pts.size();
    }

    static boolean side(int s) {
        return s >= 0 && s < 4;
    }

    int feed(int a, int b, int c, int d, int e) {
        if (tape.length() + 20 > 940) {
            return -1;
        }
        StringBuilder s = new StringBuilder(tape);
        for (int n : new int[] {a, b, c, d, e}) {
            s.append((char) (n >>> 24)).append((char) (n >> 16 & 255)).append((char) (n >> 8 & 255))
                .append((char) (n & 255));
        }
        tape = s.toString();
        return tape.length();
    }

    boolean end(int n) {
        if (n < 0 || n > tape.length()) {
            return false;
        }
        tape = tape.substring(0, n);
        return true;
    }

    int person(int p, int what) {
        if (!per(p) || what < 0 || what > 6) {
            throw new NoSuchElementException();
        }
        Per a = w.pers.get(p);
        int came = 0;
        for (int q : a.came) {
            came += 1 << q;
        }
        return new int[] {a.x, a.y, a.up, a.breath, a.most, came, a.said}[what];
    }

    int figure(int f, int what) {
        if (!fig(f) || what < 0 || what > 2) {
            return -1;
        }
        Fig g = w.figs.get(f);
        return new int[] {g.quarters, g.cells, g.cost()}[what];
    }

    int point(int q, int what) {
        if (!pt(q) || what < 0 || what > 3) {
            return -1;
        }
        Pt t = w.pts.get(q);
        return new int[] {t.x, t.y, t.up, w.bits(p -> w.pers.get(p).came.contains(q))}[what];
    }

    int cell(int x, int y, int what) {
        if (!w.in(x, y) || what < 0 || what > 2) {
            return -1;
        }
        int there = 0;
        for (int q = 0; q < w.pts.size(); q++) {
            there |= w.pts.get(q).x == x && w.pts.get(q).y == y ? 1 << q : 0;
        }
        return new int[] {w.wall(x, y), w.who(x, y), there}[what];
    }

    int now(int what) {
        if (what < 0 || what > 7) {
            return -1;
        }
        int walls = w.walls.values().stream().mapToInt(n -> n).sum();
        int said = w.pers.stream().mapToInt(Per::said).sum();
        return new int[] {w.hour, walls, said, w.kicks, w.bits(p -> w.pers.get(p).breath == 0), w.settled(),
            w.bits(p -> w.pers.get(p).up == 0), allBreath()}[what];
    }

    int allBreath() {
        return w.pers.stream().mapToInt(Per::breath).sum();
    }

    int settle(W before, boolean done) {
        if (done) {
            W after = w;
            w = before;
            keep();
            w = after;
        }
        return 0;
    }

    int say(int p, int f, int s) {
        if (!per(p) || !fig(f) || !side(s)) {
            return -1;
        }
        W before = w.copy();
        int why = w.say(p, f, s, true);
        settle(before, why == 0);
        return why;
    }

    int kick(int p, int s) {
        if (!per(p) || !side(s)) {
            return -1;
        }
        W before = w.copy();
        int why = w.kick(p, s);
        settle(before, why == 0);
        return why;
    }

    int rest(int p) {
        if (!per(p)) {
            return -1;
        }
        W before = w.copy();
        int why = w.rest(p);
        settle(before, why == 0);
        return why;
    }

    int hours(int n) {
        if (n < 1 || n > 60) {
            return -1;
        }
        W before = w.copy();
        int went = 0;
        while (went < n && w.goHour()) {
            went++;
        }
        settle(before, went > 0);
        return went;
    }

    int undo() {
        if (history.isEmpty()) {
            return -1;
        }
        w = history.pop();
        return history.size();
    }

    int could(int p, int f) {
        if (!per(p) || !fig(f)) {
            return -1;
        }
        int bits = 0;
        for (int s = 0; s < 4; s++) {
            bits += w.say(p, f, s, false) == 0 ? 1 << s : 0;
        }
        return bits;
    }

    int way(int p, int q) {
        if (!per(p) || !pt(q)) {
            return -1;
        }
        Pt t = w.pts.get(q);
        Per a = w.pers.get(p);
        int[][][] need = w.needs(Set.of(p), t.x, t.y, t.up);
        int many = need[a.x][a.y][a.up];
        if (many == 9999) {
            return -1;
        }
        List<Integer> path = new ArrayList<>();
        int[] at = {a.x, a.y, a.up};
        while (path.size() < many) {
            int left = many - path.size();
            for (int m = 0; ; m++) {
                int[] to = w.moved(Set.of(p), at[0], at[1], at[2], m);
                if (to != null && need[to[0]][to[1]][to[2]] == left - 1) {
                    path.add(m);
                    at = to;
                    break;
                }
            }
        }
        way = path;
        return many;
    }

    static int at(List<Integer> row, int k) {
        return k < 0 || k >= row.size() ? -1 : row.get(k);
    }

    int both(int p, int o, int q) {
        if (!per(p) || !per(o) || !pt(q) || p == o) {
            return -1;
        }
        Pt t = w.pts.get(q);
        int[][][] need = w.needs(Set.of(p, o), t.x, t.y, t.up);
        Per a = w.pers.get(p);
        Per b = w.pers.get(o);
        int many = Math.max(need[a.x][a.y][a.up], need[b.x][b.y][b.up]);
        return many == 9999 ? -1 : many;
    }

    int sees(int p) {
        if (!per(p)) {
            return -1;
        }
        Per a = w.pers.get(p);
        boolean[][][] been = new boolean[w.wide][w.high][4];
        Deque<int[]> todo = new ArrayDeque<>();
        todo.push(new int[] {a.x, a.y, a.up});
        Set<Integer> cells = new java.util.HashSet<>();
        while (!todo.isEmpty()) {
            int[] s = todo.pop();
            if (been[s[0]][s[1]][s[2]]) {
                continue;
            }
            been[s[0]][s[1]][s[2]] = true;
            cells.add(10 * s[0] + s[1]);
            for (int m = 0; m < 4 * w.figs.size(); m++) {
                int[] to = w.moved(Set.of(p), s[0], s[1], s[2], m);
                if (to != null) {
                    todo.push(to);
                }
            }
        }
        return cells.size();
    }

    int undoes(int f) {
        if (!fig(f)) {
            return -1;
        }
        int all = 4 * w.figs.size();
        for (int many = 1, count = all; many <= 3; many++, count *= all) {
            for (int n = 0; n < count; n++) {
                List<Integer> row = new ArrayList<>();
                for (int k = 0, rest = n; k < many; k++, rest /= all) {
                    row.add(0, rest % all);
                }
                int x = w.figs.get(f).cells;
                int y = 0;
                int turned = w.figs.get(f).quarters;
                for (int m : row) {
                    x += w.figs.get(m / 4).cells * dx(m % 4);
                    y += w.figs.get(m / 4).cells * dy(m % 4);
                    turned += w.figs.get(m / 4).quarters;
                }
                if (x == 0 && y == 0 && turned % 4 == 0) {
                    undoes = row;
                    return many;
                }
            }
        }
        return -1;
    }

    int tracks() {
        String t = tape;
        tape = "";
        if (t.length() % 2 == 1 || t.length() < 4 || t.length() > 14) {
            return -1;
        }
        for (int k = 0; k < t.length(); k += 2) {
            if (!w.in(t.charAt(k), t.charAt(k + 1))) {
                return -1;
            }
        }
        List<List<Integer>> steps = new ArrayList<>();
        int ways = 1;
        for (int k = 0; k + 2 < t.length(); k += 2) {
            List<Integer> can = new ArrayList<>();
            for (int m = 0; m < 4 * w.figs.size(); m++) {
                int c = w.figs.get(m / 4).cells;
                if (t.charAt(k) + c * dx(m % 4) == t.charAt(k + 2)
                        && t.charAt(k + 1) + c * dy(m % 4) == t.charAt(k + 3)) {
                    can.add(m);
                }
            }
            steps.add(can);
            ways *= can.size();
        }
        if (ways > 0) {
            track = steps;
        }
        return ways;
    }

    int tracksAt(int k) {
        return k < 0 || k >= track.size() ? -1 : track.get(k).get(0);
    }

    int tells() {
        int best = -1;
        for (int k = 0; k < track.size(); k++) {
            if (best < 0 || track.get(k).size() > track.get(best).size()) {
                best = k;
            }
        }
        return best;
    }

    int least() {
        int best = -1;
        double share = 2;
        for (int p = 0; p < w.pers.size(); p++) {
            double s = (double) w.pers.get(p).breath / w.pers.get(p).most;
            if (s < share - 1e-9) {
                best = p;
                share = s;
            }
        }
        return best;
    }

    int mean(int what) {
        if (w.pers.isEmpty() || what < 0 || what > 1) {
            throw new NoSuchElementException();
        }
        java.math.BigInteger a = java.math.BigInteger.valueOf(allBreath());
        java.math.BigInteger b = java.math.BigInteger.valueOf(w.pers.size());
        return (what == 0 ? a : b).divide(a.gcd(b)).intValue();
    }

    int slip(int p) {
        if (!per(p)) {
            return -1;
        }
        Per a = w.pers.get(p);
        slip = a.name + " at " + a.x + " " + a.y + " up " + a.up + (a.breath == 0 ? " spent" : "");
        return slip.length();
    }

    int byteAt(int i) {
        return i < 0 || i >= slip.length() ? -1 : slip.charAt(i);
    }

    int drawn(int n, int seed) {
        if (n < 1 || n > 60) {
            return -1;
        }
        W before = w.copy();
        int went = w.drawn(n, seed);
        settle(before, went > 0);
        return went;
    }

    int odds(int p, int q, int n, int seed) {
        if (!per(p) || !pt(q) || n < 1 || n > 30) {
            return -1;
        }
        int came = 0;
        for (int k = 0; k < n; k++) {
            W v = w.copy();
            v.drawn(20, seed + k);
            came += v.pers.get(p).came.contains(q) ? 1 : 0;
        }
        return came;
    }

    int told(int what) {
        return told == null || what < 0 || what > 3 ? -1 : told[what];
    }

    int said(int k) {
        if (sentence == null) {
            return -1;
        }
        List<Integer> who = new ArrayList<>();
        for (int p = 0; p < w.pers.size(); p++) {
            if (sentence.test(p)) {
                who.add(p);
            }
        }
        return k == -1 ? who.size() : at(who, k);
    }

    boolean image(int k) {
        if (k != 0 && k != 1) {
            return false;
        }
        imageW[k] = w.copy();
        imageS[k] = sentence;
        return true;
    }

    boolean restore(int k) {
        if (k != 0 && k != 1 || imageW[k] == null) {
            return false;
        }
        w = imageW[k].copy();
        sentence = imageS[k];
        history.clear();
        return true;
    }

    int count(int what) {
        return what < 0 || what > 5 ? -1
            : new int[] {w.wide, w.high, w.figs.size(), w.pers.size(), w.pts.size(), tape.length()}[what];
    }
}
