import java.math.BigInteger;
import java.util.ArrayDeque;
import java.util.ArrayList;
import java.util.Arrays;
import java.util.HashMap;
import java.util.HashSet;
import java.util.List;
import java.util.Map;
import java.util.NoSuchElementException;
import java.util.Set;

/** The document once more, written as slowly and as plainly as may be, to compare answers with. */
public final class Model {
    /** A fault of a text, thrown where it is come to. */
    private static final class Fault extends RuntimeException {
        private static final long serialVersionUID = 1;
        final int kind;
        final int place;

        Fault(int kind, int place) {
            super(null, null, false, false);
            this.kind = kind;
            this.place = place;
        }
    }

    private record Token(char kind, String text, int place) { }

    private static final class Tokens {
        final List<Token> all = new ArrayList<>();
        int at;

        Tokens(String text) {
            int i = 0;
            while (i < text.length()) {
                char c = text.charAt(i);
                if (c == ' ') {
                    i++;
                    continue;
                }
                int from = i;
                char kind = digit(c) ? 'n' : small(c) ? 'w' : 's';
                i++;
                while (kind == 'n' && i < text.length() && digit(text.charAt(i))
                        || kind == 'w' && i < text.length() && small(text.charAt(i))) {
                    i++;
                }
                all.add(new Token(kind, text.substring(from, i), from));
            }
            all.add(new Token('e', "", text.length()));
        }

        static boolean digit(char c) {
            return c >= '0' && c <= '9';
        }

        static boolean small(char c) {
            return c >= 'a' && c <= 'z';
        }

        Token peek() {
            return all.get(at);
        }

        boolean is(String sign) {
            return peek().kind != 'e' && peek().text.equals(sign);
        }

        void sign(String sign) {
            if (!is(sign)) {
                throw new Fault(1, peek().place);
            }
            at++;
        }

        int number(int low, int high) {
            Token t = peek();
            if (t.kind != 'n') {
                throw new Fault(1, t.place);
            }
            BigInteger value = new BigInteger(t.text);
            if (value.compareTo(BigInteger.valueOf(low)) < 0 || value.compareTo(BigInteger.valueOf(high)) > 0) {
                throw new Fault(2, t.place);
            }
            at++;
            return value.intValue();
        }

        String word(String... words) {
            Token t = peek();
            if (t.kind != 'w' || !Arrays.asList(words).contains(t.text)) {
                throw new Fault(1, t.place);
            }
            at++;
            return t.text;
        }
    }

    interface Formula {
        int value(Map<String, Integer> names);
    }

    private record Step(String word, int[] numbers, List<Step> inner) { }

    private static final class Fellow {
        final int[] within = new int[7];
        final int[] wall = new int[7];
        final int[] at = new int[7];
        final int[] taken = new int[7];
        int turns;

        Fellow copy() {
            Fellow f = new Fellow();
            for (int p = 0; p < 7; p++) {
                f.within[p] = within[p];
                f.wall[p] = wall[p];
                f.at[p] = at[p];
                f.taken[p] = taken[p];
            }
            f.turns = turns;
            return f;
        }

        int all() {
            return Arrays.stream(within).sum();
        }

        boolean white() {
            return within[0] > 0 && Arrays.stream(within).allMatch(v -> v == within[0]);
        }
    }

    private static final class State {
        final List<Fellow> fellows = new ArrayList<>();
        int day;

        State copy() {
            State s = new State();
            for (Fellow f : fellows) {
                s.fellows.add(f.copy());
            }
            s.day = day;
            return s;
        }

        int within() {
            return fellows.stream().mapToInt(Fellow::all).sum();
        }

        int wall() {
            return fellows.stream().mapToInt(f -> Arrays.stream(f.wall).sum()).sum();
        }

        int turns() {
            return fellows.stream().mapToInt(f -> f.turns).sum();
        }

        int whites() {
            int bits = 0;
            for (int i = 0; i < fellows.size(); i++) {
                bits |= fellows.get(i).white() ? 1 << i : 0;
            }
            return bits;
        }

        int at(int place) {
            int much = 0;
            for (Fellow f : fellows) {
                for (int p = 0; p < 7; p++) {
                    much += f.wall[p] > 0 && f.at[p] == place ? f.wall[p] : 0;
                }
            }
            return much;
        }

        void fade() {
            for (Fellow f : fellows) {
                for (int p = 0; p < 7; p++) {
                    f.wall[p] = f.wall[p] > 0 ? f.wall[p] - 1 : 0;
                }
            }
            day++;
        }
    }

    private record Image(State state, List<State> works) { }

    private static final Formula PLAIN = m -> (m.get("part") + 1) * m.get("bend");

    private StringBuilder tape = new StringBuilder();
    private List<int[]> glasses = new ArrayList<>();
    private int w = 60;
    private Formula formula = PLAIN;
    private List<int[]> lines = new ArrayList<>();
    private State s = new State();
    private List<State> works = new ArrayList<>();
    private final ArrayDeque<Image> images = new ArrayDeque<>();
    private int fault = -1;
    private int refused;
    private int noSuch;
    private int illegal;
    private int begun;
    private int done;

    private void bad(boolean is) {
        if (is) {
            illegal++;
            throw new IllegalArgumentException();
        }
    }

    private void missing(boolean is) {
        if (is) {
            noSuch++;
            throw new NoSuchElementException();
        }
    }

    private static boolean out(int value, int low, int high) {
        return value < low || value > high;
    }

    private Fellow at(int fellow) {
        missing(out(fellow, 0, s.fellows.size() - 1));
        return s.fellows.get(fellow);
    }

    private int[] through(int glass) {
        missing(out(glass, 0, glasses.size() - 1));
        return glasses.get(glass);
    }

    // ---- texts

    public int feed(int a, int b, int c, int d, int e) {
        if (tape.length() + 20 > 600) {
            return -1;
        }
        for (int v : new int[] {a, b, c, d, e}) {
            tape.append((char) (v >>> 24)).append((char) (v >> 16 & 255));
            tape.append((char) (v >> 8 & 255)).append((char) (v & 255));
        }
        return tape.length();
    }

    private Tokens text(int n, int longest) {
        bad(n < 0 || n > tape.length() || n > longest);
        Tokens t = new Tokens(tape.substring(0, n));
        tape = new StringBuilder();
        fault = -1;
        return t;
    }

    private int faulty(Fault f) {
        fault = f.place;
        return f.kind - 10;
    }

    public int college(int n) {
        Tokens t = text(n, 600);
        List<Fellow> people = new ArrayList<>();
        List<int[]> panes = new ArrayList<>();
        int wide = 60;
        try {
            for (int clauses = 1; t.peek().kind != 'e'; clauses++) {
                int place = t.peek().place;
                String word = t.word("fellow", "glass", "wall");
                if (clauses > 60 || word.equals("fellow") && people.size() == 6
                        || word.equals("glass") && panes.size() == 8) {
                    throw new Fault(3, place);
                }
                if (word.equals("fellow")) {
                    Fellow f = new Fellow();
                    for (int p = 0; p < 7; p++) {
                        f.within[p] = t.number(0, 40);
                    }
                    people.add(f);
                } else if (word.equals("glass")) {
                    int b = t.number(1, 9);
                    panes.add(new int[] {b, t.number(0, 1)});
                } else {
                    wide = t.number(10, 99);
                }
                t.sign(";");
            }
        } catch (Fault f) {
            return faulty(f);
        }
        s = new State();
        s.fellows.addAll(people);
        glasses = panes;
        w = wide;
        formula = PLAIN;
        lines = new ArrayList<>();
        works = new ArrayList<>();
        images.clear();
        refused = 0;
        return people.size();
    }

    public int law(int n) {
        Tokens t = text(n, 150);
        try {
            Formula f = sum(t, 0);
            if (t.peek().kind != 'e') {
                throw new Fault(1, t.peek().place);
            }
            formula = f;
        } catch (Fault f) {
            return faulty(f);
        }
        return 1;
    }

    private Formula sum(Tokens t, int open) {
        Formula left = product(t, open);
        while (t.is("+") || t.is("-")) {
            boolean plus = t.is("+");
            t.at++;
            Formula a = left;
            Formula b = product(t, open);
            left = plus ? m -> a.value(m) + b.value(m) : m -> a.value(m) - b.value(m);
        }
        return left;
    }

    private Formula product(Tokens t, int open) {
        Formula left = unit(t, open);
        while (t.is("*") || t.is("/") || t.is("%")) {
            String sign = t.peek().text;
            t.at++;
            Formula a = left;
            Formula b = unit(t, open);
            left = m -> {
                long x = a.value(m);
                long y = b.value(m);
                return (int) (sign.equals("*") ? x * y : y == 0 ? 0 : sign.equals("/") ? x / y : x % y);
            };
        }
        return left;
    }

    private Formula unit(Tokens t, int open) {
        Token first = t.peek();
        if (first.kind == 'n') {
            int v = t.number(0, 999);
            return m -> v;
        }
        boolean bracket = t.is("(");
        String word = bracket ? "(" : t.word("part", "much", "bend", "all", "taken", "turns", "day", "fellow",
                "least", "most");
        if (!bracket && !word.equals("least") && !word.equals("most")) {
            return m -> m.get(word);
        }
        if (open == 6) {
            throw new Fault(3, first.place);
        }
        if (bracket) {
            t.at++;
            Formula inner = sum(t, open + 1);
            t.sign(")");
            return inner;
        }
        t.sign("[");
        Formula a = sum(t, open + 1);
        t.sign(",");
        Formula b = sum(t, open + 1);
        t.sign("]");
        return word.equals("least") ? m -> Math.min(a.value(m), b.value(m)) : m -> Math.max(a.value(m), b.value(m));
    }

    public int work(int n) {
        Tokens t = text(n, 150);
        if (works.size() == 16) {
            return -20;
        }
        List<Step> steps;
        try {
            steps = steps(t, 0);
        } catch (Fault f) {
            return faulty(f);
        }
        works.add(s.copy());
        begun = 0;
        done = 0;
        refused = 0;
        perform(steps);
        return done;
    }

    private List<Step> steps(Tokens t, int open) {
        List<Step> list = new ArrayList<>();
        while (open == 0 ? t.peek().kind != 'e' : !t.is("]")) {
            int place = t.peek().place;
            String word = t.word("part", "join", "take", "give", "swap", "day", "again");
            int f = s.fellows.size() - 1;
            int g = glasses.size() - 1;
            switch (word) {
                case "part", "join" -> list.add(new Step(word, new int[] {t.number(0, f), t.number(0, g)}, null));
                case "take", "give" -> list.add(
                        new Step(word, new int[] {t.number(0, f), t.number(0, 6), t.number(1, 40)}, null));
                case "swap" -> list.add(
                        new Step(word, new int[] {t.number(0, f), t.number(0, f), t.number(0, 6)}, null));
                case "day" -> list.add(new Step(word, new int[0], null));
                default -> {
                    if (open == 6) {
                        throw new Fault(3, place);
                    }
                    int times = t.number(0, 40);
                    t.sign("[");
                    List<Step> inner = steps(t, open + 1);
                    t.sign("]");
                    list.add(new Step(word, new int[] {times}, inner));
                }
            }
            t.sign(";");
        }
        return list;
    }

    private void perform(List<Step> steps) {
        for (Step step : steps) {
            if (begun == 200) {
                return;
            }
            begun++;
            if (step.word.equals("again")) {
                for (int i = 0; i < step.numbers[0]; i++) {
                    perform(step.inner);
                }
            } else if (can(s, step.word, step.numbers)) {
                done++;
            } else {
                refused++;
            }
        }
    }

    private int turned(State st, int fellow, int part, int glass, int much) {
        Fellow f = st.fellows.get(fellow);
        return turned(Map.of("part", part, "much", much, "bend", glasses.get(glass)[0], "all", f.all(),
                "taken", f.taken[part], "turns", f.turns, "day", st.day, "fellow", fellow));
    }

    private int turned(Map<String, Integer> names) {
        return Math.max(0, Math.min(w - 1, formula.value(names)));
    }

    private boolean can(State st, String word, int... n) {
        switch (word) {
            case "part": {
                Fellow f = st.fellows.get(n[0]);
                if (glasses.get(n[1])[1] == 1 || f.all() == 0) {
                    return false;
                }
                Fellow then = f.copy();
                for (int p = 0; p < 7; p++) {
                    if (f.within[p] > 0) {
                        then.at[p] = turned(st, n[0], p, n[1], f.within[p]);
                        then.wall[p] = f.wall[p] + f.within[p];
                        then.within[p] = 0;
                    }
                }
                then.turns = f.turns + 1;
                st.fellows.set(n[0], then);
                return true;
            }
            case "join": {
                Fellow f = st.fellows.get(n[0]);
                Fellow then = f.copy();
                boolean any = false;
                for (int p = 0; p < 7; p++) {
                    if (glasses.get(n[1])[1] == 1 && f.wall[p] > 0
                            && f.at[p] == turned(st, n[0], p, n[1], f.wall[p])) {
                        then.within[p] = f.within[p] + f.wall[p];
                        then.wall[p] = 0;
                        any = true;
                    }
                }
                st.fellows.set(n[0], then);
                return any;
            }
            case "take":
            case "give": {
                Fellow f = st.fellows.get(n[0]);
                int by = word.equals("take") ? n[2] : -n[2];
                if (f.within[n[1]] - by < 0 || f.taken[n[1]] + by < 0) {
                    return false;
                }
                f.within[n[1]] -= by;
                f.taken[n[1]] += by;
                return true;
            }
            case "swap": {
                Fellow a = st.fellows.get(n[0]);
                Fellow b = st.fellows.get(n[1]);
                int one = a.within[n[2]];
                int two = b.within[n[2]];
                a.within[n[2]] = two;
                b.within[n[2]] = one;
                return n[0] != n[1] && one != two;
            }
            default:
                if (st.day >= 400) {
                    return false;
                }
                st.fade();
                return true;
        }
    }

    public int book(int n) {
        Tokens t = text(n, 60);
        List<int[]> list = new ArrayList<>();
        try {
            while (t.peek().kind != 'e') {
                int place = t.peek().place;
                int p = t.number(0, w - 1);
                if (list.size() == 8) {
                    throw new Fault(3, place);
                }
                list.add(new int[] {p, t.number(0, 400)});
                t.sign(";");
            }
        } catch (Fault f) {
            return faulty(f);
        }
        lines = list;
        return list.size();
    }

    public int fault() {
        return fault;
    }

    public int undo() {
        if (works.isEmpty()) {
            return -1;
        }
        s = works.remove(works.size() - 1);
        refused = 0;
        return works.size();
    }

    // ---- what there is

    public int told(int what) {
        bad(out(what, 0, 11));
        int onWall = 0;
        int taken = 0;
        for (int i = 0; i < s.fellows.size(); i++) {
            onWall |= Arrays.stream(s.fellows.get(i).wall).sum() > 0 ? 1 << i : 0;
            taken += Arrays.stream(s.fellows.get(i).taken).sum();
        }
        int[] all = {s.fellows.size(), glasses.size(), w, s.day, s.whites(), onWall, s.within(), s.wall(), taken,
            lines.size(), refused, s.turns()};
        return all[what];
    }

    public int fellow(int fellow, int what) {
        Fellow f = at(fellow);
        bad(out(what, 0, 7));
        int dark = 0;
        List<Integer> places = new ArrayList<>();
        for (int p = 0; p < 7; p++) {
            dark |= f.within[p] + f.wall[p] == 0 ? 1 << p : 0;
            if (f.wall[p] > 0) {
                places.add(f.at[p]);
            }
        }
        int[] all = {f.all(), Arrays.stream(f.wall).sum(), Arrays.stream(f.taken).sum(), dark, f.white() ? 1 : 0,
            f.turns, places.stream().min(Integer::compare).orElse(-1), places.stream().max(Integer::compare).orElse(-1)};
        return all[what];
    }

    public int part(int fellow, int part, int what) {
        Fellow f = at(fellow);
        bad(out(part, 0, 6) || out(what, 0, 3));
        return new int[] {f.within[part], f.wall[part], f.wall[part] == 0 ? -1 : f.at[part], f.taken[part]}[what];
    }

    public int glass(int glass, int what) {
        int[] g = through(glass);
        bad(out(what, 0, 1));
        return g[what];
    }

    public int place(int place) {
        bad(out(place, 0, w - 1));
        return s.at(place);
    }

    public int turn(int fellow, int part, int glass) {
        Fellow f = at(fellow);
        through(glass);
        bad(out(part, 0, 6));
        return turned(s, fellow, part, glass, f.within[part]);
    }

    public int would(int part, int much, int bend, int all, int taken, int turns, int day, int fellow) {
        bad(out(part, 0, 6) || out(much, 0, 400) || out(bend, 1, 9) || out(all, 0, 2800) || out(taken, 0, 400)
                || out(turns, 0, 999) || out(day, 0, 400) || out(fellow, 0, 5));
        return turned(Map.of("part", part, "much", much, "bend", bend, "all", all, "taken", taken, "turns", turns,
                "day", day, "fellow", fellow));
    }

    // ---- what is asked

    public int ahead(int n, int what) {
        bad(out(n, 0, 99) || out(what, 0, 1));
        State then = s.copy();
        for (int i = 0; i < n; i++) {
            then.fade();
        }
        int bits = 0;
        for (int i = 0; i < then.fellows.size(); i++) {
            bits |= Arrays.stream(then.fellows.get(i).wall).sum() > 0 ? 1 << i : 0;
        }
        return what == 0 ? then.wall() : bits;
    }

    private List<Fellow> set(int bits) {
        List<Fellow> list = new ArrayList<>();
        for (int i = 0; i < s.fellows.size(); i++) {
            if ((bits & 1 << i) != 0) {
                list.add(s.fellows.get(i));
            }
        }
        return list;
    }

    private boolean noFellows(int bits) {
        for (int i = 0; i < 32; i++) {
            if ((bits & 1 << i) != 0 && i >= s.fellows.size()) {
                return true;
            }
        }
        return false;
    }

    private int[] sums(int bits) {
        int[] sums = new int[7];
        for (Fellow f : set(bits)) {
            for (int p = 0; p < 7; p++) {
                sums[p] += f.within[p];
            }
        }
        return sums;
    }

    private int width(int bits) {
        int[] sums = sums(bits);
        Arrays.sort(sums);
        return sums[6] - sums[0];
    }

    public int spread(int fellows) {
        bad(noFellows(fellows));
        return width(fellows);
    }

    public int bow(int what) {
        bad(out(what, 0, 1));
        List<int[]> sets = new ArrayList<>();
        for (int bits = 0; bits < 1 << s.fellows.size(); bits++) {
            if (set(bits).size() >= 2) {
                sets.add(new int[] {width(bits), -Arrays.stream(sums(bits)).sum(), bits});
            }
        }
        sets.sort((a, b) -> Arrays.compare(a, b));
        return sets.isEmpty() ? -1 : what == 0 ? sets.get(0)[2] : sets.get(0)[0];
    }

    public int through(int fellow, int part, int place) {
        Fellow f = at(fellow);
        bad(out(part, 0, 6) || out(place, 0, w - 1));
        List<int[]> sets = new ArrayList<>();
        for (int bits = 0; bits < 1 << glasses.size(); bits++) {
            int together = 0;
            boolean parts = true;
            for (int g = 0; g < glasses.size(); g++) {
                if ((bits & 1 << g) != 0) {
                    parts &= glasses.get(g)[1] == 0;
                    together += turned(s, fellow, part, g, f.within[part]);
                }
            }
            if (parts && together == place) {
                sets.add(new int[] {Integer.bitCount(bits), bits});
            }
        }
        sets.sort((a, b) -> Arrays.compare(a, b));
        return sets.isEmpty() ? -1 : sets.get(0)[1];
    }

    public int serves(int part, int n) {
        bad(out(part, 0, 6) || out(n, 0, 400));
        for (int off = 0; off <= 400; off++) {
            for (int i = 0; i < s.fellows.size(); i++) {
                int much = s.fellows.get(i).within[part];
                if (much == n - off || much == n + off) {
                    return i;
                }
            }
        }
        return -1;
    }

    private List<int[]> fitting() {
        List<int[]> list = new ArrayList<>();
        for (int f = 0; f < s.fellows.size(); f++) {
            for (int g = 0; g < glasses.size(); g++) {
                State then = s.copy();
                boolean right = glasses.get(g)[1] == 0;
                if (right) {
                    can(then, "part", f, g);
                }
                for (int[] line : lines) {
                    right &= then.at(line[0]) == line[1];
                }
                if (right) {
                    list.add(new int[] {f, g});
                }
            }
        }
        return list;
    }

    public int fits(int what) {
        bad(out(what, 0, 1));
        List<int[]> list = fitting();
        return what == 0 ? list.size() : list.isEmpty() ? -1 : 10 * list.get(0)[0] + list.get(0)[1];
    }

    public int look(int what) {
        bad(out(what, 0, 1));
        List<State> thens = new ArrayList<>();
        for (int[] pair : fitting()) {
            State then = s.copy();
            can(then, "part", pair);
            thens.add(then);
        }
        int best = -1;
        int left = -1;
        for (int place = 0; place < w; place++) {
            Map<Integer, Integer> groups = new HashMap<>();
            for (State then : thens) {
                groups.merge(then.at(place), 1, Integer::sum);
            }
            int worst = groups.values().stream().max(Integer::compare).orElse(0);
            int here = place;
            if (lines.stream().noneMatch(l -> l[0] == here) && (best < 0 || worst < left)) {
                best = place;
                left = worst;
            }
        }
        return what == 0 ? best : left;
    }

    public int swings(int fellow, int part, int q) {
        Fellow f = at(fellow);
        bad(out(part, 0, 6) || out(q, 1, 2800));
        int count = 0;
        for (int bits = 0; bits < 128; bits++) {
            int votes = 0;
            for (int p = 0; p < 7; p++) {
                votes += (bits & 1 << p) != 0 ? f.within[p] : 0;
            }
            if ((bits & 1 << part) != 0 && votes >= q && votes - f.within[part] < q) {
                count++;
            }
        }
        return count;
    }

    public int power(int fellow, int part, int q, int half) {
        Fellow f = at(fellow);
        bad(out(part, 0, 6) || out(q, 1, 2800) || out(half, 0, 1));
        int count = orders(f, part, q, 0, 0);
        int divisor = BigInteger.valueOf(count).gcd(BigInteger.valueOf(5040)).intValue();
        return half == 0 ? count / divisor : 5040 / divisor;
    }

    private int orders(Fellow f, int part, int q, int came, int votes) {
        int count = 0;
        for (int p = 0; p < 7; p++) {
            if ((came & 1 << p) == 0) {
                int then = votes + f.within[p];
                if (came == 127 - (1 << p)) {
                    return p == part && votes < q && then >= q ? 1 : 0;
                }
                if (p != part) {
                    count += orders(f, part, q, came | 1 << p, then);
                } else if (votes < q && then >= q) {
                    int rest = 1;
                    for (int i = 2; i <= 6 - Integer.bitCount(came); i++) {
                        rest *= i;
                    }
                    count += rest;
                }
            }
        }
        return count;
    }

    public long green(int n, int q, int half) {
        bad(out(n, 0, 12) || out(q, 0, 16) || out(half, 0, 1));
        BigInteger below = BigInteger.valueOf(16).pow(n);
        BigInteger above = below.subtract(BigInteger.valueOf(16 - q).pow(n));
        BigInteger divisor = above.gcd(below);
        return (half == 0 ? above : below).divide(divisor).longValueExact();
    }

    public int lookers(int v, int w, int what) {
        bad(out(v, 0, 99) || out(w, 0, 99) || out(what, 0, 2));
        int[][] one = {{0, v}, {w, 0}};
        int[][] other = {{0, w}, {v, 0}};
        List<int[]> rests = new ArrayList<>();
        for (int a = 0; a < 2; a++) {
            for (int b = 0; b < 2; b++) {
                if (one[1 - a][b] <= one[a][b] && other[a][1 - b] <= other[a][b]) {
                    rests.add(new int[] {10 * a + b, one[a][b] + other[a][b]});
                }
            }
        }
        return what == 0 ? rests.size() : rests.isEmpty() ? what - 2 : rests.get(0)[what - 1];
    }

    public int light(int fellow, int fellows, int n) {
        Fellow f = at(fellow);
        bad(noFellows(fellows) || out(n, 0, 2800));
        int bound = 0;
        while (bound < 3000) {
            int next = bound + 1;
            if (set(fellows).stream().mapToInt(o -> Math.min(o.all(), next)).sum() > n) {
                break;
            }
            bound = next;
        }
        return (fellows & 1 << fellow) == 0 ? 0 : Math.min(f.all(), bound);
    }

    public int broadest(int what) {
        bad(out(what, 0, 1));
        int most = s.fellows.stream().mapToInt(Fellow::all).max().orElse(-1);
        for (int i = 0; i < s.fellows.size() && what == 0; i++) {
            if (s.fellows.get(i).all() == most) {
                return i;
            }
        }
        return most;
    }

    public int strongest(int fellow, int what) {
        Fellow f = at(fellow);
        bad(out(what, 0, 1));
        int most = Arrays.stream(f.within).max().getAsInt();
        for (int p = 0; p < 7 && what == 0; p++) {
            if (f.within[p] == most) {
                return p;
            }
        }
        return most;
    }

    public int joins(int fellow, int glass) {
        Fellow f = at(fellow);
        through(glass);
        State then = s.copy();
        can(then, "join", fellow, glass);
        int bits = 0;
        for (int p = 0; p < 7; p++) {
            bits |= then.fellows.get(fellow).within[p] > f.within[p] ? 1 << p : 0;
        }
        return bits;
    }

    public int blurs(int fellow) {
        at(fellow);
        int bits = 0;
        for (int g = 0; g < glasses.size(); g++) {
            State then = s.copy();
            if (can(then, "part", fellow, g)) {
                Fellow f = then.fellows.get(fellow);
                Set<Integer> places = new HashSet<>();
                for (int p = 0; p < 7; p++) {
                    if (f.wall[p] > 0 && !places.add(f.at[p])) {
                        bits |= 1 << g;
                    }
                }
            }
        }
        return bits;
    }

    public int lit() {
        int count = 0;
        for (int place = 0; place < w; place++) {
            count += s.at(place) > 0 ? 1 : 0;
        }
        return count;
    }

    public int lacks(int fellow, int part) {
        Fellow f = at(fellow);
        bad(out(part, 0, 6));
        return Arrays.stream(f.within).max().getAsInt() - f.within[part];
    }

    public int mates(int fellow) {
        at(fellow);
        int bits = 0;
        for (int i = 0; i < s.fellows.size(); i++) {
            int[] sums = sums(1 << i | 1 << fellow);
            bits |= i != fellow && sums[0] > 0 && Arrays.stream(sums).distinct().count() == 1 ? 1 << i : 0;
        }
        return bits;
    }

    public int first(int fellow) {
        Fellow f = at(fellow);
        for (int place = 0; place < w; place++) {
            for (int p = 0; p < 7; p++) {
                if (f.wall[p] > 0 && f.at[p] == place) {
                    return p;
                }
            }
        }
        return -1;
    }

    public int halo(int place, int n) {
        bad(out(place, 0, w - 1) || out(n, 0, 99));
        int much = 0;
        for (int p = place - n; p <= place + n; p++) {
            much += p < 0 || p >= w ? 0 : s.at(p);
        }
        return much;
    }

    private int seed;

    private int draw(int n) {
        seed = (int) (seed * 1103515245L + 12345L);
        return (int) (((seed & 0xffffffffL) >> 16) % 32768 % n);
    }

    private State termOf(int from, int q, int days) {
        State then = s.copy();
        seed = from;
        for (int i = 0; i < days; i++) {
            if (!then.fellows.isEmpty() && !glasses.isEmpty()) {
                int f = draw(then.fellows.size());
                int g = draw(glasses.size());
                if (!can(then, "part", f, g)) {
                    can(then, "join", f, g);
                }
                if (draw(16) < q) {
                    int who = draw(then.fellows.size());
                    can(then, "take", who, draw(7), 1);
                }
            }
            then.fade();
        }
        return then;
    }

    public int term(int seed, int q, int days, int what) {
        bad(out(q, 0, 16) || out(days, 1, 48) || out(what, 0, 3));
        State then = termOf(seed, q, days);
        return new int[] {then.within(), then.wall(), then.turns() - s.turns(), then.whites()}[what];
    }

    public int span(int seed, int many, int q, int days, int what, int fellow) {
        bad(out(many, 1, 10) || out(q, 0, 16) || out(days, 1, 48) || out(what, 0, 2)
                || out(fellow, 0, s.fellows.size() - 1));
        List<Integer> withins = new ArrayList<>();
        int having = 0;
        for (int i = 0; i < many; i++) {
            State then = termOf(seed + i, q, days);
            withins.add(then.within());
            having += then.fellows.get(fellow).all() > 0 ? 1 : 0;
        }
        withins.sort(Integer::compare);
        return what == 0 ? withins.get(0) : what == 1 ? withins.get(many - 1) : having;
    }

    // ---- images

    public int image() {
        if (images.size() == 3) {
            return -1;
        }
        List<State> copies = new ArrayList<>();
        for (State work : works) {
            copies.add(work.copy());
        }
        images.push(new Image(s.copy(), copies));
        return images.size();
    }

    public int restore() {
        if (images.isEmpty()) {
            return -1;
        }
        Image image = images.pop();
        s = image.state;
        works = image.works;
        refused = 0;
        return images.size();
    }

    public int status(int what) {
        return what == 0 ? noSuch : what == 1 ? illegal : -1;
    }

    public int count(int what) {
        return what == 0 ? images.size() : what == 1 ? tape.length() : what == 2 ? works.size() : -1;
    }
}
