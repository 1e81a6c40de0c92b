import java.util.ArrayList;
import java.util.Arrays;
import java.util.Collections;
import java.util.HashSet;
import java.util.List;
import java.util.Set;
import java.util.TreeSet;

/**
 * The document once more, as plainly and wastefully as it can be said, for comparing answers. It shares no code and,
 * where there is a choice, no way of reckoning with AimFerry.
 */
final class FerryModel {
    static final int NONE = -1;

    // ---------------------------------------------------------------- texts

    static final class Fault extends Exception {
        final int number;

        Fault(int place, int kind) {
            number = 1 + 8 * place + kind;
        }
    }

    /** kind 'w' a WORD, 'n' a NUMBER, 'e' the end, else the sign itself; a sign of two bytes is its first's. */
    record Token(char kind, String text, int place) { }

    static final class Tokens {
        final List<Token> list = new ArrayList<>();
        int next = 0;

        Tokens(List<Integer> bytes) {
            int i = 0;
            while (i < bytes.size()) {
                int b = bytes.get(i);
                int from = i;
                StringBuilder text = new StringBuilder();
                if (b == 32) {
                    i++;
                } else if (b >= 97 && b <= 122) {
                    while (i < bytes.size() && bytes.get(i) >= 97 && bytes.get(i) <= 122) {
                        text.append((char) (int) bytes.get(i++));
                    }
                    list.add(new Token('w', text.toString(), from));
                } else if (b >= 48 && b <= 57) {
                    while (i < bytes.size() && bytes.get(i) >= 48 && bytes.get(i) <= 57) {
                        text.append((char) (int) bytes.get(i++));
                    }
                    list.add(new Token('n', text.toString(), from));
                } else {
                    i++;
                    text.append((char) b);
                    if ((b == '<' || b == '>') && i < bytes.size() && bytes.get(i) == '=') {
                        text.append('=');
                        i++;
                    }
                    list.add(new Token((char) b, text.toString(), from));
                }
            }
            list.add(new Token('e', "", bytes.size()));
        }

        Token peek() {
            return list.get(next);
        }

        boolean isWord(String word) {
            return peek().kind() == 'w' && peek().text().equals(word);
        }

        boolean isSign(char sign) {
            return peek().kind() == sign && sign != 'w' && sign != 'n' && sign != 'e';
        }

        Token take() {
            Token token = peek();
            if (token.kind() != 'e') {
                next++;
            }
            return token;
        }

        int number(int least, int most) throws Fault {
            Token token = take();
            if (token.kind() != 'n') {
                throw new Fault(token.place(), 0);
            }
            if (token.text().length() > 5 || Integer.parseInt(token.text()) < least
                    || Integer.parseInt(token.text()) > most) {
                throw new Fault(token.place(), 1);
            }
            return Integer.parseInt(token.text());
        }
    }

    static final class Crossing {
        int load;
        int seats;
        int fog;
        final List<int[]> people = new ArrayList<>();
        final int[][] beside = new int[7][7];
        final Set<Integer> fogs = new TreeSet<>();
    }

    static Crossing readCrossing(List<Integer> bytes) throws Fault {
        Tokens t = new Tokens(bytes);
        Crossing c = new Crossing();
        Set<String> known = Set.of("ferry", "person", "cork", "beside", "fog");
        for (int clause = 1;; clause++) {
            Token head = t.take();
            if (head.kind() != 'w' || !known.contains(head.text())) {
                throw new Fault(head.place(), 0);
            }
            String w = head.text();
            boolean one = w.equals("person") || w.equals("cork");
            if (clause > 40 || (clause == 1) != w.equals("ferry") || (one && c.people.size() == 7)) {
                throw new Fault(head.place(), 4);
            }
            if (w.equals("ferry")) {
                c.load = t.number(0, 99);
                c.seats = t.number(1, 7);
                c.fog = t.number(0, 20);
            } else if (w.equals("person")) {
                c.people.add(new int[] {t.number(0, 40), t.number(0, 9), 0});
            } else if (w.equals("cork")) {
                c.people.add(new int[] {0, 0, t.number(1, 20)});
            } else if (w.equals("beside")) {
                int a = t.number(0, c.people.size() - 1);
                int place = t.peek().place();
                int b = t.number(0, c.people.size() - 1);
                if (a == b) {
                    throw new Fault(place, 1);
                }
                int much = t.number(0, 9);
                c.beside[a][b] = much;
                c.beside[b][a] = much;
            } else {
                c.fogs.add(t.number(0, 60));
            }
            Token tail = t.take();
            if (tail.kind() == 'e') {
                return c;
            }
            if (tail.kind() != ';') {
                throw new Fault(tail.place(), 0);
            }
        }
    }

    interface Sum {
        long of(Facts facts);
    }

    interface Test {
        boolean holds(Facts facts);
    }

    record Clause(Sum sum, Test test) { }

    /** How all is for one PERSON who might come aboard. */
    static final class Facts {
        int person;
        int aim;
        int grows;
        int light;
        int side;
        int hour;
        int weight;
        int room;
        int aboard;
        int waits;
        int more;
        int fog;
    }

    static final class RuleText {
        final Tokens t;
        int parts = 0;

        RuleText(List<Integer> bytes) {
            t = new Tokens(bytes);
        }

        List<Clause> read() throws Fault {
            List<Clause> clauses = new ArrayList<>();
            while (true) {
                Token head = t.take();
                if (head.kind() != 'w' || !head.text().equals("board")) {
                    throw new Fault(head.place(), 0);
                }
                if (clauses.size() == 12) {
                    throw new Fault(head.place(), 4);
                }
                Sum sum = sum();
                Test test = null;
                if (t.isWord("if")) {
                    t.take();
                    test = test(0);
                }
                clauses.add(new Clause(sum, test));
                Token tail = t.take();
                if (tail.kind() == 'e') {
                    return clauses;
                }
                if (tail.kind() != ';') {
                    throw new Fault(tail.place(), 0);
                }
            }
        }

        void part(int place) throws Fault {
            if (++parts > 60) {
                throw new Fault(place, 3);
            }
        }

        Test test(int depth) throws Fault {
            Test left = partOf(depth);
            while (t.isWord("or")) {
                t.take();
                Test a = left;
                Test b = partOf(depth);
                left = f -> a.holds(f) || b.holds(f);
            }
            return left;
        }

        Test partOf(int depth) throws Fault {
            Test left = fact(depth);
            while (t.isWord("and")) {
                t.take();
                Test a = left;
                Test b = fact(depth);
                left = f -> a.holds(f) && b.holds(f);
            }
            return left;
        }

        Test fact(int depth) throws Fault {
            if (t.isWord("not") || t.isSign('[')) {
                Token open = t.take();
                if (depth + 1 > 10) {
                    throw new Fault(open.place(), 2);
                }
                if (open.kind() == 'w') {
                    Test inner = fact(depth + 1);
                    return f -> !inner.holds(f);
                }
                Test inner = test(depth + 1);
                Token close = t.take();
                if (close.kind() != ']') {
                    throw new Fault(close.place(), 0);
                }
                return inner;
            }
            Sum left = sum();
            Token sign = t.take();
            if (sign.kind() != '<' && sign.kind() != '=' && sign.kind() != '>') {
                throw new Fault(sign.place(), 0);
            }
            part(sign.place());
            Sum right = sum();
            switch (sign.text()) {
                case "<": return f -> left.of(f) < right.of(f);
                case "<=": return f -> left.of(f) <= right.of(f);
                case "=": return f -> left.of(f) == right.of(f);
                case ">=": return f -> left.of(f) >= right.of(f);
                default: return f -> left.of(f) > right.of(f);
            }
        }

        Sum sum() throws Fault {
            Sum left = term();
            while (t.isSign('+') || t.isSign('-')) {
                boolean plus = t.take().kind() == '+';
                Sum a = left;
                Sum b = term();
                left = f -> plus ? a.of(f) + b.of(f) : a.of(f) - b.of(f);
            }
            return left;
        }

        Sum term() throws Fault {
            Sum left = value();
            while (t.isSign('*') || t.isSign('/') || t.isSign('%')) {
                char sign = t.take().kind();
                Sum a = left;
                Sum b = value();
                if (sign == '*') {
                    left = f -> a.of(f) * b.of(f);
                } else if (sign == '/') {
                    left = f -> b.of(f) == 0 ? 0 : a.of(f) / b.of(f);
                } else {
                    left = f -> b.of(f) == 0 ? 0 : a.of(f) % b.of(f);
                }
            }
            return left;
        }

        Sum value() throws Fault {
            Token token = t.peek();
            if (token.kind() == 'n') {
                int n = t.number(0, 99999);
                part(token.place());
                return f -> n;
            }
            if (token.kind() != 'w') {
                throw new Fault(token.place(), 0);
            }
            t.take();
            Sum sum = word(token.text());
            if (sum == null) {
                throw new Fault(token.place(), 0);
            }
            part(token.place());
            return sum;
        }

        static Sum word(String word) {
            switch (word) {
                case "person": return f -> f.person;
                case "aim": return f -> f.aim;
                case "grows": return f -> f.grows;
                case "light": return f -> f.light;
                case "side": return f -> f.side;
                case "hour": return f -> f.hour;
                case "weight": return f -> f.weight;
                case "room": return f -> f.room;
                case "aboard": return f -> f.aboard;
                case "waits": return f -> f.waits;
                case "more": return f -> f.more;
                case "fog": return f -> f.fog;
                default: return null;
            }
        }
    }

    // ---------------------------------------------------------------- how it stands

    static final class State {
        int hour;
        int boat;
        int shipped;
        int bottom;
        int[] side;
        int[] aim;

        State(Crossing c) {
            side = new int[c.people.size()];
            aim = new int[c.people.size()];
            for (int p = 0; p < aim.length; p++) {
                aim[p] = c.people.get(p)[0];
            }
        }

        State(State s) {
            hour = s.hour;
            boat = s.boat;
            shipped = s.shipped;
            bottom = s.bottom;
            side = s.side.clone();
            aim = s.aim.clone();
        }

        int overBits() {
            int bits = 0;
            for (int p = 0; p < side.length; p++) {
                bits += side[p] << p;
            }
            return bits;
        }

        int over() {
            return Arrays.stream(side).sum();
        }
    }

    record Note(int n, int person, int side) { }

    record Image(Crossing crossing, State state, List<Note> notes, int force, int x) { }

    final List<Integer> tape = new ArrayList<>();
    final List<List<Clause>> rules = new ArrayList<>();
    Crossing crossing = null;
    State state = null;
    List<Note> notes = new ArrayList<>();
    List<State> past = new ArrayList<>();
    int force = NONE;
    int x = 0;
    final Image[] images = new Image[4];

    static List<Integer> members(int set) {
        List<Integer> list = new ArrayList<>();
        for (int p = 0; p < 32; p++) {
            if ((set >>> p & 1) == 1) {
                list.add(p);
            }
        }
        return list;
    }

    static boolean exist(Crossing c, int set) {
        for (int p : members(set)) {
            if (c == null || p >= c.people.size()) {
                return false;
            }
        }
        return true;
    }

    static int weigh(Crossing c, int[] aim, int boat, boolean fog, int set) {
        List<Integer> in = members(set);
        int w = 0;
        for (int i = 0; i < in.size(); i++) {
            w += aim[in.get(i)];
            for (int j = i + 1; j < in.size(); j++) {
                w += c.beside[in.get(i)][in.get(j)];
            }
        }
        if (boat == 1) {
            w = Math.floorDiv(w, 2);
        }
        if (fog) {
            w += c.fog;
        }
        for (int p : in) {
            w -= c.people.get(p)[2];
        }
        return w < 0 ? 0 : w;
    }

    static boolean foggy(Crossing c, int hour) {
        return c.fogs.contains(hour);
    }

    static boolean canBoard(Crossing c, State s, int set, boolean fog) {
        if (!exist(c, set) || members(set).size() > c.seats) {
            return false;
        }
        for (int p : members(set)) {
            if (s.side[p] != s.boat) {
                return false;
            }
        }
        return weigh(c, s.aim, s.boat, fog, set) <= c.load;
    }

    static int[] grown(Crossing c, int[] aim, int set) {
        int[] g = aim.clone();
        for (int p : members(set)) {
            if (g[p] > 0) {
                g[p] = Math.min(99, g[p] + c.people.get(p)[1]);
            }
        }
        return g;
    }

    static boolean carry(Crossing c, State s, int set, boolean fog) {
        s.aim = grown(c, s.aim, set);
        s.hour++;
        if (weigh(c, s.aim, s.boat, fog, set) > c.load) {
            s.shipped++;
            return false;
        }
        for (int p : members(set)) {
            s.side[p] = 1 - s.side[p];
        }
        s.boat = 1 - s.boat;
        return true;
    }

    static long sumFor(List<Clause> rule, Facts f) {
        for (Clause clause : rule) {
            if (clause.test() == null || clause.test().holds(f)) {
                return clause.sum().of(f);
            }
        }
        return 0;
    }

    static int sail(Crossing c, State s, List<Clause> rule, boolean drawn) {
        boolean fog = drawn || foggy(c, s.hour);
        int aboard = 0;
        while (true) {
            int best = -1;
            long bestSum = 0;
            for (int p = c.people.size() - 1; p >= 0; p--) {
                int with = aboard | 1 << p;
                if (with == aboard || !canBoard(c, s, with, fog)) {
                    continue;
                }
                long sum;
                if (rule == null) {
                    sum = s.boat == 0 ? 1 : 0;
                } else {
                    Facts f = new Facts();
                    f.person = p;
                    f.aim = s.aim[p];
                    f.grows = c.people.get(p)[1];
                    f.light = c.people.get(p)[2];
                    f.side = s.boat;
                    f.hour = s.hour;
                    f.weight = weigh(c, s.aim, s.boat, fog, aboard);
                    f.room = c.load - f.weight;
                    f.aboard = members(aboard).size();
                    for (int q = 0; q < s.side.length; q++) {
                        if (s.side[q] == s.boat && !members(aboard).contains(q)) {
                            f.waits++;
                        }
                    }
                    f.more = weigh(c, s.aim, s.boat, fog, with) - f.weight;
                    f.fog = fog ? 1 : 0;
                    sum = sumFor(rule, f);
                }
                if (sum > 0 && sum >= bestSum) {
                    best = p;
                    bestSum = sum;
                }
            }
            if (best < 0) {
                break;
            }
            aboard |= 1 << best;
        }
        if (aboard == 0 && !canBoard(c, s, 0, fog)) {
            s.hour++;
        } else {
            carry(c, s, aboard, fog);
        }
        return aboard;
    }

    List<Clause> inForce() {
        return force == NONE ? null : rules.get(force);
    }

    State after(State from, int n) {
        State s = new State(from);
        for (int k = 0; k < n; k++) {
            sail(crossing, s, inForce(), false);
        }
        return s;
    }

    boolean is(int person) {
        return crossing != null && person >= 0 && person < crossing.people.size();
    }

    int here() {
        int bits = 0;
        for (int p = 0; p < state.side.length; p++) {
            if (state.side[p] == state.boat) {
                bits |= 1 << p;
            }
        }
        return bits;
    }

    boolean fogNow() {
        return foggy(crossing, state.hour);
    }

    void act() {
        past.add(new State(state));
        if (past.size() > 20) {
            past.remove(0);
        }
    }

    // ---------------------------------------------------------------- the face

    int feed(int a, int b, int c, int d, int e) {
        if (tape.size() > 380) {
            return NONE;
        }
        for (int n : new int[] {a, b, c, d, e}) {
            tape.add(n >>> 24);
            tape.add(n >>> 16 & 255);
            tape.add(n >>> 8 & 255);
            tape.add(n & 255);
        }
        return tape.size();
    }

    int end(int n) {
        if (n < 0 || n > tape.size()) {
            return NONE;
        }
        while (tape.size() > n) {
            tape.remove(tape.size() - 1);
        }
        return n;
    }

    int ferry() {
        try {
            Crossing c = readCrossing(tape);
            crossing = c;
            state = new State(c);
            notes = new ArrayList<>();
            past.clear();
            return c.people.size();
        } catch (Fault fault) {
            return -2 - fault.number;
        } finally {
            tape.clear();
        }
    }

    int rule() {
        if (rules.size() == 6) {
            return NONE;
        }
        try {
            rules.add(new RuleText(tape).read());
            return rules.size() - 1;
        } catch (Fault fault) {
            return -2 - fault.number;
        } finally {
            tape.clear();
        }
    }

    int force(int rule) {
        if (rule < -1 || rule >= rules.size()) {
            return -2;
        }
        int was = force;
        force = rule;
        return was;
    }

    int person(int person, int what) {
        if (!is(person) || what < 0 || what > 3) {
            return NONE;
        }
        int[] told = crossing.people.get(person);
        return new int[] {state.aim[person], told[1], told[2], state.side[person]}[what];
    }

    int beside(int one, int other) {
        return is(one) && is(other) ? crossing.beside[one][other] : NONE;
    }

    int trip() {
        if (crossing == null || state.hour == 999) {
            return NONE;
        }
        act();
        return sail(crossing, state, inForce(), false);
    }

    int cross(int people) {
        if (crossing == null || state.hour == 999 || !canBoard(crossing, state, people, fogNow())) {
            return NONE;
        }
        act();
        return carry(crossing, state, people, fogNow()) ? 1 : 0;
    }

    int toss(int person, int much) {
        if (!is(person) || much < 1 || much > state.aim[person]) {
            return NONE;
        }
        act();
        state.bottom += much;
        return state.aim[person] -= much;
    }

    int talk(int person, int much) {
        if (!is(person) || crossing.people.get(person)[2] != 0 || much < 1 || much > 20) {
            return NONE;
        }
        act();
        return state.aim[person] = Math.min(99, state.aim[person] + much);
    }

    int undo() {
        if (past.isEmpty()) {
            return NONE;
        }
        state = past.remove(past.size() - 1);
        return past.size();
    }

    int ahead(int person, int n, int what) {
        if (crossing == null || n < 0 || n > 100 || what < 0 || what > 2 || (what < 2 && !is(person))) {
            return NONE;
        }
        State s = after(state, n);
        return what == 0 ? s.side[person] : what == 1 ? s.aim[person] : s.shipped;
    }

    int over() {
        if (crossing == null) {
            return NONE;
        }
        for (int n = 0; n < 100; n++) {
            State s = after(state, n);
            if (s.over() == s.side.length) {
                return state.hour + n;
            }
        }
        return -2;
    }

    int weight(int people) {
        return crossing == null || !exist(crossing, people) ? NONE
            : weigh(crossing, state.aim, state.boat, fogNow(), people);
    }

    boolean safe(int set) {
        return canBoard(crossing, state, set, fogNow()) && carry(crossing, new State(state), set, fogNow());
    }

    int most(int what) {
        if (crossing == null || what < 0 || what > 1) {
            return NONE;
        }
        int best = -1;
        for (int set = 127; set >= 0; set--) {
            if (safe(set) && (best < 0 || members(set).size() >= members(best).size())) {
                best = set;
            }
        }
        return best < 0 ? -2 : what == 0 ? members(best).size() : best;
    }

    int lighten(int people) {
        if (crossing == null || !exist(crossing, people) || members(people).size() > crossing.seats
                || (people & here()) != people) {
            return NONE;
        }
        // reach[t]: the least that grown AIMS can come to if t is thrown of those looked at so far
        List<Integer> in = members(people);
        int[] reach = new int[700];
        Arrays.fill(reach, 1 << 20);
        reach[0] = 0;
        for (int p : in) {
            int[] then = new int[700];
            Arrays.fill(then, 1 << 20);
            for (int t = 0; t < 700; t++) {
                for (int u = 0; u <= state.aim[p] && u <= t; u++) {
                    int left = state.aim[p] - u;
                    int grown = left == 0 ? 0 : Math.min(99, left + crossing.people.get(p)[1]);
                    then[t] = Math.min(then[t], reach[t - u] + grown);
                }
            }
            reach = then;
        }
        int twos = weighTwos(in);
        for (int t = 0; t < 700; t++) {
            if (reach[t] < 1 << 20) {
                int w = reach[t] + twos;
                w = state.boat == 1 ? w / 2 : w;
                w += fogNow() ? crossing.fog : 0;
                for (int p : in) {
                    w -= crossing.people.get(p)[2];
                }
                if (w <= crossing.load) {
                    return t;
                }
            }
        }
        return -2;
    }

    int weighTwos(List<Integer> in) {
        int w = 0;
        for (int a : in) {
            for (int b : in) {
                w += a < b ? crossing.beside[a][b] : 0;
            }
        }
        return w;
    }

    int fewest(int what) {
        if (crossing == null || what < 0 || what > 1) {
            return NONE;
        }
        if (state.over() == state.side.length) {
            return 0;
        }
        int bestSet = -1;
        int bestWay = Integer.MAX_VALUE;
        for (int set = 0; set < 128; set++) {
            if (canBoard(crossing, state, set, fogNow())) {
                int way = 1 + wayFrom(1 - state.boat, state.overBits() ^ set);
                if (way > 0 && way < bestWay) {
                    bestWay = way;
                    bestSet = set;
                }
            }
        }
        return bestSet < 0 ? -2 : what == 0 ? bestWay : bestSet;
    }

    /** Forward, wave by wave; -1000 for no way. */
    int wayFrom(int boat, int over) {
        int all = (1 << state.side.length) - 1;
        Set<Integer> seen = new HashSet<>();
        Set<Integer> wave = new HashSet<>(Set.of(over));
        for (int n = 0; n < 300; n++) {
            Set<Integer> next = new HashSet<>();
            for (int o : wave) {
                if (o == all) {
                    return n;
                }
                if (!seen.add(o * 2 + boat)) {
                    continue;
                }
                int there = boat == 1 ? o : all & ~o;
                for (int set = 0; set <= all; set++) {
                    if ((set & there) == set && members(set).size() <= crossing.seats
                            && weigh(crossing, state.aim, boat, fogNow(), set) <= crossing.load) {
                        next.add(o ^ set);
                    }
                }
            }
            boat = 1 - boat;
            wave = next;
        }
        return -1000;
    }

    int row(int what) {
        if (crossing == null || what < -1 || what > 6) {
            return -3;
        }
        List<List<Integer>> rows = new ArrayList<>();
        permute(new ArrayList<>(), members(here()), rows);
        List<Integer> best = null;
        int least = 0;
        for (List<Integer> row : rows) {
            int sum = 0;
            for (int i = 0; i + 1 < row.size(); i++) {
                sum += crossing.beside[row.get(i)][row.get(i + 1)];
            }
            if (best == null || sum < least) {
                best = row;
                least = sum;
            }
        }
        return what == -1 ? least : what < best.size() ? best.get(what) : -2;
    }

    static void permute(List<Integer> done, List<Integer> left, List<List<Integer>> rows) {
        if (left.isEmpty()) {
            rows.add(new ArrayList<>(done));
        }
        for (int p : left) {
            List<Integer> rest = new ArrayList<>(left);
            rest.remove((Integer) p);
            done.add(p);
            permute(done, rest, rows);
            done.remove(done.size() - 1);
        }
    }

    int fare(int people, int much, int person) {
        if (!is(person) || !exist(crossing, people) || !members(people).contains(person) || much < 0 || much > 9999) {
            return NONE;
        }
        List<Integer> in = members(people);
        int sum = in.stream().mapToInt(p -> state.aim[p]).sum();
        boolean alike = sum == 0;
        int whole = alike ? in.size() : sum;
        int[] pays = new int[7];
        int[] lost = new int[7];
        int left = much;
        for (int p : in) {
            int times = much * (alike ? 1 : state.aim[p]);
            pays[p] = times / whole;
            lost[p] = times - pays[p] * whole;
            left -= pays[p];
        }
        List<Integer> order = new ArrayList<>(in);
        order.sort((a, b) -> lost[a] != lost[b] ? lost[b] - lost[a] : a - b);
        for (int k = 0; k < left; k++) {
            pays[order.get(k)]++;
        }
        return pays[person];
    }

    int stay(int what) {
        if (crossing == null || what < 0 || what > 1) {
            return NONE;
        }
        int who = -1;
        int least = 0;
        for (int p : members(here())) {
            int w = weigh(crossing, state.aim, state.boat, fogNow(), here() - (1 << p));
            if (who < 0 || w < least) {
                who = p;
                least = w;
            }
        }
        return who < 0 ? -2 : what == 0 ? who : least;
    }

    int lies(int one, int other, int n, int what) {
        if (!is(one) || !is(other) || one == other || n < 1 || n > 20 || what < 0 || what > 1) {
            return NONE;
        }
        int[][][] has = new int[2][2][2];
        for (int a = 0; a < 2; a++) {
            for (int b = 0; b < 2; b++) {
                State s = new State(state);
                s.aim[one] = a == 1 ? s.aim[one] / 2 : s.aim[one];
                s.aim[other] = b == 1 ? s.aim[other] / 2 : s.aim[other];
                s = after(s, n);
                has[a][b][0] = (s.side[one] == 1 ? 3 : 0) - a;
                has[a][b][1] = (s.side[other] == 1 ? 3 : 0) - b;
            }
        }
        List<Integer> ways = new ArrayList<>();
        for (int a = 0; a < 2; a++) {
            for (int b = 0; b < 2; b++) {
                if (has[1 - a][b][0] <= has[a][b][0] && has[a][1 - b][1] <= has[a][b][1]) {
                    ways.add(2 * a + b);
                }
            }
        }
        return what == 0 ? ways.size() : ways.isEmpty() ? -2 : ways.get(0);
    }

    int waits(int person) {
        if (!is(person)) {
            return NONE;
        }
        for (int n = 0; n < 100; n++) {
            if (members(sail(crossing, after(state, n), inForce(), false)).contains(person)) {
                return state.hour + n;
            }
        }
        return -2;
    }

    int soothe(int n, int what) {
        if (crossing == null || n < 1 || n > 30 || what < 0 || what > 1) {
            return -2;
        }
        List<Integer> over = new ArrayList<>();
        over.add(after(state, n).over());
        for (int p = 0; p < state.side.length; p++) {
            State s = new State(state);
            s.aim[p] = 0;
            over.add(after(s, n).over());
        }
        int most = Collections.max(over);
        return what == 0 ? over.indexOf(most) - 1 : most;
    }

    int never() {
        if (crossing == null) {
            return NONE;
        }
        int bits = here();
        for (int set = 0; set < 128; set++) {
            if (safe(set)) {
                bits &= ~set;
            }
        }
        return bits;
    }

    int note(int n, int person, int side) {
        if (n == NONE) {
            notes = new ArrayList<>();
            return 0;
        }
        if (n < 0 || n > 60 || !is(person) || side < 0 || side > 1 || notes.size() == 10) {
            return -2;
        }
        notes = new ArrayList<>(notes);
        notes.add(new Note(n, person, side));
        return notes.size();
    }

    /** How it is behind TRIP n of all; the first made from the begin on is TRIP 0. */
    State behindTrip(int rule, int n) {
        State s = new State(crossing);
        for (int trip = 0; trip <= n; trip++) {
            sail(crossing, s, rule < 0 ? null : rules.get(rule), false);
        }
        return s;
    }

    List<Integer> so() {
        List<Integer> list = new ArrayList<>();
        for (int r = -1; r < rules.size(); r++) {
            boolean fine = true;
            for (Note note : notes) {
                fine &= behindTrip(r, note.n()).side[note.person()] == note.side();
            }
            if (fine) {
                list.add(r);
            }
        }
        return list;
    }

    int ruled(int what) {
        if (crossing == null || what < 0 || what > 1) {
            return -3;
        }
        List<Integer> list = so();
        return what == 0 ? list.size() : list.isEmpty() ? -2 : list.get(0);
    }

    int look(int n, int what) {
        if (crossing == null || n < 0 || n > 60 || what < 0 || what > 1) {
            return NONE;
        }
        List<Integer> list = so();
        if (list.isEmpty() || crossing.people.isEmpty()) {
            return -2;
        }
        int[] far = new int[state.side.length];
        for (int r : list) {
            State s = behindTrip(r, n);
            for (int p = 0; p < far.length; p++) {
                far[p] += s.side[p];
            }
        }
        int who = -1;
        int fewest = 99;
        for (int p = 0; p < far.length; p++) {
            int alike = Math.max(far[p], list.size() - far[p]);
            if (alike < fewest) {
                who = p;
                fewest = alike;
            }
        }
        return what == 0 ? who : fewest;
    }

    int seed(int number) {
        if (number < 0) {
            return NONE;
        }
        int was = x;
        x = number;
        return was;
    }

    int fogs(int m, int n, int p, int what) {
        if (crossing == null || m < 1 || m > 10 || n < 1 || n > 60 || p < 0 || p > 100 || what < 0 || what > 1) {
            return NONE;
        }
        java.math.BigInteger y = java.math.BigInteger.valueOf(x);
        int over = 0;
        int shipped = 0;
        for (int i = 0; i < m; i++) {
            State s = new State(state);
            s.shipped = 0;
            for (int k = 0; k < n; k++) {
                y = y.multiply(java.math.BigInteger.valueOf(1103515245)).add(java.math.BigInteger.valueOf(12345))
                    .mod(java.math.BigInteger.valueOf(2147483648L));
                int draw = y.intValueExact() / 65536;
                sail(crossing, s, inForce(), draw % 100 < p);
            }
            over += s.over();
            shipped += s.shipped;
        }
        return what == 0 ? over : shipped;
    }

    int count(int what) {
        boolean is = crossing != null;
        switch (what) {
            case 0: return is ? crossing.load : 0;
            case 1: return is ? crossing.seats : 0;
            case 2: return is ? crossing.fog : 0;
            case 3: return is ? crossing.people.size() : 0;
            case 4: return rules.size();
            case 5: return force;
            case 6: return is ? state.hour : 0;
            case 7: return is ? state.boat : 0;
            case 8: return is ? state.overBits() : 0;
            case 9: return is ? state.shipped : 0;
            case 10: return is ? state.bottom : 0;
            case 11: return is && fogNow() ? 1 : 0;
            case 12: return notes.size();
            case 13: return past.size();
            case 14: return x;
            case 15: return tape.size();
            default: return NONE;
        }
    }

    int image(int k) {
        if (k < 0 || k > 3) {
            return NONE;
        }
        images[k] = new Image(crossing, crossing == null ? null : new State(state), List.copyOf(notes), force, x);
        return crossing == null ? 0 : state.hour;
    }

    int back(int k) {
        if (k < 0 || k > 3 || images[k] == null) {
            return NONE;
        }
        crossing = images[k].crossing();
        state = crossing == null ? null : new State(images[k].state());
        notes = new ArrayList<>(images[k].notes());
        force = images[k].force();
        x = images[k].x();
        past.clear();
        return crossing == null ? 0 : state.hour;
    }
}
