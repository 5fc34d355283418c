import java.util.ArrayDeque;
import java.util.ArrayList;
import java.util.Arrays;
import java.util.Deque;
import java.util.List;
import java.util.Random;

/**
 * Runs of calls drawn with fixed seeds, each answer held against a second program that is
 * written from the document alone: it goes through all subsets and all orders, one by one.
 */
public final class ModelTests {
    private static final int RUNS = 4000;
    private static final int MOST_CALLS = 512;

    public static void main(String[] args) {
        for (int run = 0; run < RUNS; run++) {
            new Run(run).play();
        }
        Due.done();
    }

    static final class Member {
        int kind;
        int side;
        int weight;
        int would;
    }

    record Strap(int member, int matter, boolean isFor, int notch, int strain, int fate) {
        boolean holds() {
            return fate == 0;
        }

        Strap strained(int more) {
            return new Strap(member, matter, isFor, notch, strain + more, fate);
        }

        Strap halved() {
            return new Strap(member, matter, isFor, notch, strain / 2, fate);
        }

        Strap ended(int how) {
            return new Strap(member, matter, isFor, notch, strain, how);
        }

        Strap loosened() {
            return new Strap(member, matter, isFor, notch - 1, strain, notch == 1 ? 2 : fate);
        }
    }

    /** Section 2, as a value: deeds make a new one. */
    static final class State {
        final List<Integer> weights = new ArrayList<>();
        final List<Strap> straps = new ArrayList<>();
        int puts;
        int passed;
        int twangs;
        int sessions;

        State copy() {
            State c = new State();
            c.weights.addAll(weights);
            c.straps.addAll(straps);
            c.puts = puts;
            c.passed = passed;
            c.twangs = twangs;
            c.sessions = sessions;
            return c;
        }
    }

    static final class Model {
        static final int UNKNOWN = -1000000001;
        static final int OUTSIDE = -1000000002;
        static final int NOT = -1000000003;
        static final int FULL = -1000000004;

        String text = "";
        int fault = -1;
        int q = 0;
        List<Member> members = new ArrayList<>();
        State state = new State();
        long seed = 0;
        Deque<State> undo = new ArrayDeque<>();
        State[] images = new State[2];
        long[] imageSeeds = new long[2];
        List<int[]> seen = new ArrayList<>();
        List<int[]> book = new ArrayList<>();

        int feed(int letter) {
            if (letter < 0 || letter > 255) return OUTSIDE;
            if (text.length() == 240) return FULL;
            text += (char) letter;
            return text.length();
        }

        int house() {
            Text t = new Text(text);
            text = "";
            t.judge();
            fault = t.faultAt;
            if (t.fault != 0) return -10 - t.fault;
            q = t.q;
            members = t.members;
            state = new State();
            for (Member m : members) state.weights.add(m.weight);
            state.straps.addAll(t.straps);
            undo.clear();
            images = new State[2];
            seen.clear();
            book.clear();
            return members.size();
        }

        int told(int what) {
            int set = 0;
            switch (what) {
                case 0: return q;
                case 1: return members.size();
                case 2: return state.straps.size();
                case 3: return text.length();
                case 4: return state.puts;
                case 5: return state.passed;
                case 6: return state.twangs;
                case 7: return state.sessions;
                case 8:
                    for (int s = 0; s < state.straps.size(); s++) if (state.straps.get(s).holds()) set += 1 << s;
                    return set;
                case 9:
                    for (int m = 0; m < members.size(); m++) if (hangs(state, m)) set += 1 << m;
                    return set;
                case 10:
                    int[] sums = new int[2];
                    for (Strap s : state.straps) if (s.holds()) sums[members.get(s.member()).side] += s.notch();
                    return sums[1] > sums[0] ? 1 : 0;
                case 11:
                    for (int t = 0; t < 8; t++) if (margin(state, t) > 0) set += 1 << t;
                    return set;
                case 12: return seen.size();
                case 13: return book.size();
                case 14: return undo.size();
                default: return OUTSIDE;
            }
        }

        boolean noMember(int m) {
            return m < 0 || m >= members.size();
        }

        boolean noStrap(int s) {
            return s < 0 || s >= state.straps.size();
        }

        static boolean noMatter(int t) {
            return t < 0 || t > 7;
        }

        int member(int m, int what) {
            if (noMember(m)) return UNKNOWN;
            int set = 0;
            switch (what) {
                case 0: return members.get(m).kind;
                case 1: return members.get(m).side;
                case 2: return state.weights.get(m);
                case 3: return members.get(m).would;
                case 4:
                    for (int s = 0; s < state.straps.size(); s++) {
                        if (state.straps.get(s).holds() && state.straps.get(s).member() == m) set += 1 << s;
                    }
                    return set;
                case 5:
                    for (int t = 0; t < 8; t++) if (held(state, m, t)) set += 1 << t;
                    return set;
                case 6: return clashes(m, 0);
                case 7: return freed(m);
                default: return OUTSIDE;
            }
        }

        int clashes(int m, int gone) {
            int n = 0;
            List<Strap> straps = state.straps;
            for (int a = 0; a < straps.size(); a++) {
                for (int b = a + 1; b < straps.size(); b++) {
                    Strap x = straps.get(a);
                    Strap y = straps.get(b);
                    boolean there = x.holds() && y.holds() && (gone >> a & 1) == 0 && (gone >> b & 1) == 0;
                    if (there && x.member() == m && y.member() == m && x.matter() == y.matter() && x.isFor() != y.isFor()) n++;
                }
            }
            return n;
        }

        int freed(int m) {
            int best = -1;
            for (int set = 0; set < 1 << state.straps.size(); set++) {
                boolean fewer = best < 0 || Integer.bitCount(set) < Integer.bitCount(best);
                if (fewer && clashes(m, set) == 0) best = set;
            }
            return best;
        }

        int strap(int s, int what) {
            if (noStrap(s)) return UNKNOWN;
            Strap x = state.straps.get(s);
            switch (what) {
                case 0: return x.member();
                case 1: return x.matter();
                case 2: return x.isFor() ? 1 : 0;
                case 3: return x.notch();
                case 4: return x.strain();
                case 5: return x.fate();
                default: return OUTSIDE;
            }
        }

        // section 2

        int pull(State in, int m, int t) {
            int pull = 0;
            for (Strap s : in.straps) {
                if (s.holds() && s.member() == m && s.matter() == t) pull += s.isFor() ? s.notch() : -s.notch();
            }
            return pull;
        }

        boolean hangs(State in, int m) {
            int all = 0;
            for (Strap s : in.straps) if (s.holds() && s.member() == m) all += s.notch();
            return all > in.weights.get(m);
        }

        boolean would(int m, int t) {
            return (members.get(m).would >> t & 1) == 1;
        }

        int way(State in, int m, int t) {
            int pull = pull(in, m, t);
            if (pull > 0) return 1;
            if (pull < 0) return 0;
            if (hangs(in, m)) return 2;
            return would(m, t) ? 1 : 0;
        }

        boolean held(State in, int m, int t) {
            int way = way(in, m, t);
            return way == 1 && !would(m, t) || way == 0 && would(m, t);
        }

        int votes(State in, int m, int t) {
            if (way(in, m, t) == 2) return 0;
            return members.get(m).kind == 3 && hangs(in, m) ? 2 : 1;
        }

        int margin(State in, int t) {
            int margin = 0;
            for (int m = 0; m < members.size(); m++) {
                margin += way(in, m, t) == 1 ? votes(in, m, t) : -votes(in, m, t);
            }
            return margin;
        }

        int moreStrain(State in, Strap s, int t) {
            if (!s.holds() || s.matter() != t) return 0;
            int m = s.member();
            int way = way(in, m, t);
            if (way == 2) return 0;
            boolean with = (way == 1) == s.isFor();
            if (!with) return 2;
            if (!held(in, m, t)) return 0;
            int kind = members.get(m).kind;
            if (kind == 1) return 2;
            if (kind == 2) return hangs(in, m) ? 1 : 0;
            return 1;
        }

        State afterPut(State in, int t) {
            State out = in.copy();
            out.puts++;
            if (margin(in, t) > 0) out.passed++;
            for (int i = 0; i < in.straps.size(); i++) {
                Strap s = in.straps.get(i);
                if (!s.holds() || s.matter() != t) continue;
                Strap then = s.strained(moreStrain(in, s, t));
                if (then.strain() >= q * then.notch()) {
                    then = then.ended(1);
                    out.twangs++;
                }
                out.straps.set(i, then);
            }
            return out;
        }

        State afterSession(State in) {
            State out = in.copy();
            for (int m = 0; m < members.size(); m++) {
                if (members.get(m).kind == 1 && in.weights.get(m) > 1) out.weights.set(m, in.weights.get(m) - 1);
            }
            for (int i = 0; i < in.straps.size(); i++) out.straps.set(i, in.straps.get(i).halved());
            out.sessions++;
            return out;
        }

        void become(State then) {
            undo.addLast(state);
            if (undo.size() > 24) undo.removeFirst();
            state = then;
        }

        int put(int t) {
            if (noMatter(t)) return OUTSIDE;
            if (q == 0) return NOT;
            int passes = margin(state, t) > 0 ? 1 : 0;
            become(afterPut(state, t));
            return passes;
        }

        int letOut(int s) {
            if (noStrap(s)) return UNKNOWN;
            if (!state.straps.get(s).holds()) return NOT;
            State then = state.copy();
            then.straps.set(s, state.straps.get(s).loosened());
            become(then);
            return state.straps.get(s).notch();
        }

        int letGo(int s) {
            if (noStrap(s)) return UNKNOWN;
            if (!state.straps.get(s).holds()) return NOT;
            State then = state.copy();
            then.straps.set(s, state.straps.get(s).ended(2));
            become(then);
            return state.straps.get(s).notch();
        }

        int say(int m, int t, boolean isFor, int notch) {
            if (noMember(m)) return UNKNOWN;
            if (noMatter(t) || notch < 1 || notch > 9) return OUTSIDE;
            if (state.straps.size() == 12) return FULL;
            State then = state.copy();
            then.straps.add(new Strap(m, t, isFor, notch, 0, 0));
            become(then);
            return state.straps.size() - 1;
        }

        int session() {
            if (q == 0) return NOT;
            become(afterSession(state));
            return state.sessions;
        }

        int draw(int n) {
            seed = (seed * 1103515245L + 12345L) % (1L << 31);
            return (int) (seed / 65536 % n);
        }

        int drift(int n) {
            if (n < 1 || n > 20) return OUTSIDE;
            if (q == 0) return NOT;
            for (int i = 0; i < n; i++) {
                int deed = draw(8);
                int t = draw(8);
                State then = state;
                if (deed < 5) then = afterPut(state, t);
                if (deed == 7) then = afterSession(state);
                if ((deed == 5 || deed == 6) && !state.straps.isEmpty()) {
                    int s = draw(state.straps.size());
                    if (state.straps.get(s).holds()) {
                        then = state.copy();
                        then.straps.set(s, state.straps.get(s).loosened());
                    }
                }
                become(then);
            }
            return state.twangs;
        }

        int undo(int n) {
            if (n < 1 || n > 24) return OUTSIDE;
            if (n > undo.size()) return NOT;
            for (int i = 0; i < n; i++) state = undo.removeLast();
            return state.puts;
        }

        // section 3

        int goes(int m, int t, int what) {
            if (noMember(m)) return UNKNOWN;
            if (noMatter(t) || what < 0 || what > 1) return OUTSIDE;
            return what == 0 ? way(state, m, t) : pull(state, m, t) + 1000;
        }

        int matter(int t, int what) {
            if (noMatter(t)) return OUTSIDE;
            switch (what) {
                case 0: return margin(state, t) > 0 ? 1 : 0;
                case 1: return margin(state, t) + 1000;
                case 2:
                    int set = 0;
                    for (int s = 0; s < state.straps.size(); s++) {
                        if (moreStrain(state, state.straps.get(s), t) > 0) set += 1 << s;
                    }
                    return set;
                case 3: return least(t);
                case 4:
                    State in = state;
                    for (int i = 1; i <= 99; i++) {
                        in = afterPut(in, t);
                        if (in.twangs > state.twangs) return i;
                    }
                    return -1;
                default: return OUTSIDE;
            }
        }

        int least(int t) {
            int best = -1;
            int hold = told(8);
            for (int set = 0; set < 1 << state.straps.size(); set++) {
                if ((set & ~hold) != 0) continue;
                if (best >= 0 && Integer.bitCount(set) >= Integer.bitCount(best)) continue;
                State then = state.copy();
                for (int s = 0; s < then.straps.size(); s++) {
                    if ((set >> s & 1) == 1) then.straps.set(s, then.straps.get(s).ended(2));
                }
                if (margin(then, t) > 0) best = set;
            }
            return best;
        }

        int agenda(int set, int what) {
            if (set < 0 || set > 255 || Integer.bitCount(set) > 5 || what < 0 || what > 1) return OUTSIDE;
            int[] best = {-1, 0};
            orders(state, set, 0, best);
            return what == 0 ? best[0] : best[1];
        }

        void orders(State in, int left, int figures, int[] best) {
            if (left == 0) {
                int passed = in.passed - state.passed;
                if (passed > best[0] || passed == best[0] && figures < best[1]) {
                    best[0] = passed;
                    best[1] = figures;
                }
                return;
            }
            for (int t = 7; t >= 0; t--) {
                if ((left >> t & 1) == 1) orders(afterPut(in, t), left & ~(1 << t), figures * 10 + t + 1, best);
            }
        }

        int power(int m, int t) {
            if (noMember(m)) return UNKNOWN;
            if (noMatter(t)) return OUTSIDE;
            int all = 0;
            int fors = 0;
            for (int k = 0; k < members.size(); k++) {
                all += votes(state, k, t);
                if (way(state, k, t) == 1) fors += 1 << k;
            }
            return turns(m, t, fors, 0, all);
        }

        int turns(int m, int t, int left, int sum, int all) {
            int n = 0;
            for (int k = 0; k < members.size(); k++) {
                if ((left >> k & 1) == 0) continue;
                int then = sum + votes(state, k, t);
                boolean first = 2 * sum <= all && 2 * then > all;
                if (first && k == m) n += ordersOf(Integer.bitCount(left) - 1);
                if (2 * then <= all) n += turns(m, t, left & ~(1 << k), then, all);
            }
            return n;
        }

        static int ordersOf(int n) {
            return n <= 1 ? 1 : n * ordersOf(n - 1);
        }

        int quiet(int n, int q100) {
            if (n < 0 || n > 60 || q100 < 0 || q100 > 100) return OUTSIDE;
            long x = 1000000000L;
            for (int i = 0; i < n; i++) x = x * q100 / 100;
            return (int) x;
        }

        int see(int t, int went) {
            if (noMatter(t) || went < 0 || went > 2) return OUTSIDE;
            if (seen.size() == 6) return FULL;
            seen.add(new int[] {t, went});
            return seen.size();
        }

        int couldBe() {
            int set = 0;
            for (int m = 0; m < members.size(); m++) {
                boolean fits = true;
                for (int[] s : seen) fits &= way(state, m, s[0]) == s[1];
                if (fits) set += 1 << m;
            }
            return set;
        }

        int next() {
            int set = couldBe();
            int best = -1;
            int bestPart = Integer.bitCount(set);
            for (int t = 0; t < 8; t++) {
                int[] parts = new int[3];
                for (int m = 0; m < members.size(); m++) if ((set >> m & 1) == 1) parts[way(state, m, t)]++;
                int part = Arrays.stream(parts).max().getAsInt();
                if (part < bestPart) {
                    bestPart = part;
                    best = t;
                }
            }
            return best;
        }

        int write(int m, int t, int went) {
            if (noMember(m)) return UNKNOWN;
            if (noMatter(t) || went < 0 || went > 2) return OUTSIDE;
            if (book.size() == 20) return FULL;
            book.add(new int[] {m, t, went});
            return book.size();
        }

        int judge() {
            for (int i = 0; i < book.size(); i++) {
                int[] e = book.get(i);
                if (way(state, e[0], e[1]) != e[2]) return i;
            }
            return -1;
        }

        int tear() {
            int both = seen.size() + book.size();
            seen.clear();
            book.clear();
            return both;
        }

        int seed(int v) {
            if (v < 0) return OUTSIDE;
            int was = (int) seed;
            seed = v;
            return was;
        }

        int keep(int i) {
            if (i < 0 || i > 1) return UNKNOWN;
            images[i] = state.copy();
            imageSeeds[i] = seed;
            undo.clear();
            return 1;
        }

        int goBack(int i) {
            if (i < 0 || i > 1) return UNKNOWN;
            if (images[i] == null) return NOT;
            state = images[i].copy();
            seed = imageSeeds[i];
            undo.clear();
            return 1;
        }
    }

    /** A text, cut into words and numbers first, and only then judged by what is due at each place. */
    static final class Text {
        final String text;
        final List<int[]> tokens = new ArrayList<>();
        int fault = 0;
        int faultAt = -1;
        int q = 0;
        List<Member> members = new ArrayList<>();
        List<Strap> straps = new ArrayList<>();

        /** A token: where it starts, its letter ('0' for a number, 0 for the end), its value (1000 and more: too long). */
        Text(String text) {
            this.text = text;
            int i = 0;
            while (i < text.length()) {
                char c = text.charAt(i);
                int end = i + 1;
                if (c >= '0' && c <= '9') {
                    while (end < text.length() && text.charAt(end) >= '0' && text.charAt(end) <= '9') end++;
                    int value = end - i > 3 ? 1000 : Integer.parseInt(text.substring(i, end));
                    tokens.add(new int[] {i, '0', value});
                } else if (c != ' ') {
                    // a sign 0 must not be taken for the end
                    tokens.add(new int[] {i, c == 0 ? 1 : c, 0});
                }
                i = end;
            }
            tokens.add(new int[] {text.length(), 0, 0});
        }

        void judge() {
            int k = 0;
            while (fault == 0 && tokens.get(k)[1] != 0) {
                int[] word = tokens.get(k);
                int[][] bounds = boundsOf(word[1]);
                if (bounds == null || q == 0 && word[1] != 'q') {
                    say(1, word[0]);
                    return;
                }
                if (isTooMany(word[1])) {
                    say(3, word[0]);
                    return;
                }
                int[] values = new int[bounds.length];
                for (int i = 0; i <= bounds.length; i++) {
                    k++;
                    int[] token = tokens.get(k);
                    if (token[1] != (i == bounds.length ? ';' : '0')) {
                        say(1, token[0]);
                        return;
                    }
                    if (i < bounds.length) {
                        if (token[2] < bounds[i][0] || token[2] > bounds[i][1]) {
                            say(2, token[0]);
                            return;
                        }
                        values[i] = token[2];
                    }
                }
                k++;
                take(word[1], values);
            }
        }

        void say(int number, int at) {
            fault = number;
            faultAt = at;
        }

        int[][] boundsOf(int word) {
            switch (word) {
                case 'q': return new int[][] {{1, 9}};
                case 'm': return new int[][] {{0, 3}, {0, 1}, {1, 99}, {0, 255}};
                case 's': return new int[][] {{0, members.size() - 1}, {0, 7}, {0, 1}, {1, 9}};
                default: return null;
            }
        }

        boolean isTooMany(int word) {
            return word == 'q' && q > 0 || word == 'm' && members.size() == 6 || word == 's' && straps.size() == 12;
        }

        void take(int word, int[] v) {
            if (word == 'q') {
                q = v[0];
            } else if (word == 'm') {
                Member m = new Member();
                m.kind = v[0];
                m.side = v[1];
                m.weight = v[2];
                m.would = v[3];
                members.add(m);
            } else {
                straps.add(new Strap(v[0], v[1], v[2] == 1, v[3], 0, 0));
            }
        }
    }

    /** One object and its model under the same calls. */
    static final class Run {
        final int run;
        final Random random;
        final BoundBraces x = new BoundBraces();
        final Model model = new Model();
        int calls = 0;

        Run(int run) {
            this.run = run;
            random = new Random(run * 7919L + 17);
        }

        void play() {
            if (random.nextInt(8) == 0) someCalls(20);
            tell();
            while (calls < MOST_CALLS) {
                someCalls(60 + random.nextInt(300));
                if (random.nextInt(3) == 0 && calls + 245 < MOST_CALLS) tell();
            }
        }

        void someCalls(int n) {
            for (int i = 0; i < n && calls < MOST_CALLS; i++) call(random.nextInt(100));
        }

        void due(String call, int got, int want) {
            calls++;
            Due.is("run " + run + " call " + calls + ": " + call, got, want);
        }

        void tell() {
            String text = random.nextInt(4) == 0 ? spoilt(aText()) : aText();
            for (int i = 0; i < text.length() && i < 241; i++) {
                int c = text.charAt(i);
                due("feed(" + c + ")", x.feed(c), model.feed(c));
            }
            due("house() of \"" + text + "\"", x.house(), model.house());
            due("fault()", x.fault(), model.fault);
        }

        int below(int n) {
            return random.nextInt(n);
        }

        /** Mostly within 0 .. n - 1, at times just out of it, seldom far out. */
        int about(int n) {
            int r = below(40);
            if (r == 0) return -1;
            if (r == 1) return n;
            if (r == 2) return below(2) == 0 ? Integer.MIN_VALUE : Integer.MAX_VALUE;
            return below(Math.max(1, n));
        }

        String gap() {
            return below(6) == 0 ? "  " : " ";
        }

        String aText() {
            StringBuilder b = new StringBuilder();
            if (below(40) == 0) return below(2) == 0 ? "" : "   ";
            b.append("q").append(1 + below(below(2) == 0 ? 3 : 9)).append(";");
            int members = below(10) == 0 ? below(3) : 1 + below(6);
            int topics = 1 + below(8);
            for (int m = 0; m < members; m++) {
                int weight = below(3) == 0 ? 1 + below(99) : 1 + below(14);
                b.append("m").append(below(4)).append(gap()).append(below(2)).append(gap());
                b.append(weight).append(gap()).append(below(256)).append(";");
            }
            int straps = members == 0 ? 0 : below(13);
            int few = 1 + below(Math.max(1, members));
            for (int s = 0; s < straps; s++) {
                b.append("s").append(below(few)).append(gap()).append(below(topics)).append(gap());
                b.append(below(2)).append(gap()).append(1 + below(below(3) == 0 ? 9 : 4)).append(";");
            }
            return b.length() > 240 ? b.substring(0, b.lastIndexOf(";", 239) + 1) : b.toString();
        }

        String spoilt(String text) {
            StringBuilder b = new StringBuilder(text);
            String signs = "qms;  0123456789x\u0000\t\u00e9";
            for (int i = 1 + below(2); i > 0 && b.length() > 0; i--) {
                int at = below(b.length());
                char sign = signs.charAt(below(signs.length()));
                int how = below(4);
                if (how == 0) b.deleteCharAt(at);
                if (how == 1) b.setCharAt(at, sign);
                if (how == 2) b.insert(at, sign);
                if (how == 3) b.setLength(at);
            }
            return b.toString();
        }

        void call(int which) {
            int m = about(model.members.size());
            int s = about(model.state.straps.size());
            int t = about(8);
            int w = about(3);
            if (which < 14) deed(which, m, s, t);
            else if (which < 80) asked(which, m, s, t);
            else other(which, m, t, w);
        }

        void deed(int which, int m, int s, int t) {
            switch (which) {
                case 0: case 1: case 2: case 3: case 4:
                    due("put(" + t + ")", x.put(t), model.put(t));
                    break;
                case 5: case 6:
                    due("letOut(" + s + ")", x.letOut(s), model.letOut(s));
                    break;
                case 7:
                    due("letGo(" + s + ")", x.letGo(s), model.letGo(s));
                    break;
                case 8: case 9:
                    boolean isFor = below(2) == 0;
                    int notch = about(9) + 1;
                    due("say(" + m + ", " + t + ", " + isFor + ", " + notch + ")", x.say(m, t, isFor, notch), model.say(m, t, isFor, notch));
                    break;
                case 10:
                    due("session()", x.session(), model.session());
                    break;
                case 11:
                    int n = below(3) == 0 ? about(21) : 1 + below(4);
                    due("drift(" + n + ")", x.drift(n), model.drift(n));
                    break;
                default:
                    int back = below(4) == 0 ? about(25) : 1 + below(3);
                    due("undo(" + back + ")", x.undo(back), model.undo(back));
            }
        }

        void asked(int which, int m, int s, int t) {
            if (which < 30) {
                int what = about(15);
                due("told(" + what + ")", x.told(what), model.told(what));
            } else if (which < 42) {
                int what = about(8);
                due("member(" + m + ", " + what + ")", x.member(m, what), model.member(m, what));
            } else if (which < 52) {
                int what = about(6);
                due("strap(" + s + ", " + what + ")", x.strap(s, what), model.strap(s, what));
            } else if (which < 58) {
                int what = about(2);
                due("goes(" + m + ", " + t + ", " + what + ")", x.goes(m, t, what), model.goes(m, t, what));
            } else if (which < 70) {
                int what = about(5);
                due("matter(" + t + ", " + what + ")", x.matter(t, what), model.matter(t, what));
            } else if (which < 73) {
                int set = about(256);
                int what = about(2);
                due("agenda(" + set + ", " + what + ")", x.agenda(set, what), model.agenda(set, what));
            } else {
                due("power(" + m + ", " + t + ")", x.power(m, t), model.power(m, t));
            }
        }

        void other(int which, int m, int t, int w) {
            if (which < 82) {
                int n = about(61);
                int q = below(2) == 0 ? about(101) : 90 + about(11);
                due("quiet(" + n + ", " + q + ")", x.quiet(n, q), model.quiet(n, q));
            } else if (which < 84) {
                due("see(" + t + ", " + w + ")", x.see(t, w), model.see(t, w));
            } else if (which < 87) {
                due("couldBe()", x.couldBe(), model.couldBe());
            } else if (which < 89) {
                due("next()", x.next(), model.next());
            } else if (which < 91) {
                int went = !model.noMember(m) && !Model.noMatter(t) && below(5) > 0 ? model.way(model.state, m, t) : w;
                due("write(" + m + ", " + t + ", " + went + ")", x.write(m, t, went), model.write(m, t, went));
            } else if (which < 94) {
                due("judge()", x.judge(), model.judge());
            } else if (which == 94) {
                if (below(4) == 0) due("tear()", x.tear(), model.tear());
            } else if (which == 95) {
                int v = random.nextInt();
                due("seed(" + v + ")", x.seed(v), model.seed(v));
            } else if (which == 96) {
                int i = about(2);
                due("keep(" + i + ")", x.keep(i), model.keep(i));
            } else if (which == 97) {
                int i = about(2);
                due("goBack(" + i + ")", x.goBack(i), model.goBack(i));
            } else if (which == 98) {
                int c = about(256);
                if (below(3) == 0) due("feed(" + c + ")", x.feed(c), model.feed(c));
            } else {
                due("fault()", x.fault(), model.fault);
            }
        }
    }
}
