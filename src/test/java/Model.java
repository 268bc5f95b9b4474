import java.util.ArrayList;
import java.util.List;
import java.util.function.Predicate;

/**
 * The document once more, written as differently as could be from the class itself: kinds are
 * classes, texts are trees read by descent, and each thought is a copy that is thrown away.
 */
final class Model {
    static final int BAD = -1000000001, NO = -1000000002, FULL = -1000000003, NONE = -1000000005;
    static final int NOTHING = -1000000011, KIND = -1000000012, INDEX = -1000000013, SIZE = -1000000014;

    // ---- kinds, as classes under one another

    static class Plain {
        int takes(World w, Trouser t) { return w.plain(t); }
        int loses(Trouser t) { return 5; }
        int bags() { return 6; }
        int worth(Trouser t) { return t.sharp < t.tram ? 0 : t.sharp - t.tram; }
    }

    static class Worsted extends Plain {
        @Override int takes(World w, Trouser t) { return Math.min(99, super.takes(w, t) + 10); }
        @Override int loses(Trouser t) { return super.loses(t) - 2; }
        @Override int bags() { return super.bags() - 1; }
        @Override int worth(Trouser t) { return super.worth(t) + t.holds; }
    }

    static final class Waxed extends Worsted {
        @Override int takes(World w, Trouser t) { return Math.min(99, super.takes(w, t) + 2 * t.holds); }
        @Override int loses(Trouser t) { return super.loses(t) / 2; }
        @Override int worth(Trouser t) { return 2 * super.worth(t); }
    }

    static class Flannel extends Plain {
        @Override int takes(World w, Trouser t) { return super.takes(w, t) / 2; }
        @Override int loses(Trouser t) { return super.loses(t) + t.knee / 10; }
        @Override int bags() { return 2 * super.bags(); }
        @Override int worth(Trouser t) { return 99 - t.knee; }
    }

    static final class Slept extends Flannel {
        @Override int takes(World w, Trouser t) { return Math.max(30, super.takes(w, t)); }
        @Override int loses(Trouser t) { return 2 * super.loses(t); }
        @Override int bags() { return super.bags() - 4; }
        @Override int worth(Trouser t) { return super.worth(t) / 2; }
    }

    static final class Tweed extends Plain {
        @Override int takes(World w, Trouser t) { return 20; }
        @Override int loses(Trouser t) { return 1; }
        @Override int bags() { return super.bags() - 4; }
        @Override int worth(Trouser t) { return t.knee; }
    }

    static final Plain[] KINDS = {new Plain(), new Worsted(), new Flannel(), new Waxed(), new Slept(), new Tweed()};

    static final class Trouser {
        int kind, place, sharp, tram, knee, holds;

        Trouser(int kind, int place, int sharp) { this.kind = kind; this.place = place; this.sharp = sharp; }

        Trouser twin() {
            Trouser t = new Trouser(kind, place, sharp);
            t.tram = tram;
            t.knee = knee;
            t.holds = holds;
            return t;
        }

        Plain cloth() { return KINDS[kind]; }

        boolean under(int k) { return KINDS[k].getClass().isInstance(cloth()); }
    }

    // ---- texts, as trees

    interface Node {
        int of(java.util.Map<Character, Integer> names);
    }

    static final class Wrong extends RuntimeException {
        private static final long serialVersionUID = 1L;
        final int place;

        Wrong(int place) { this.place = place; }
    }

    static final class Law {
        int key, leaves;
        Node tree;
    }

    static final class Descent {
        final List<String> words = new ArrayList<>();
        final List<Integer> starts = new ArrayList<>();
        int at = 0, leaves = 0, key = -1;

        Descent(String tape) {
            java.util.regex.Matcher m = java.util.regex.Pattern.compile("[a-z]+|[0-9]+|[^ ]", java.util.regex.Pattern.DOTALL).matcher(tape);
            int behindWord = -1;
            while (m.find()) {
                boolean word = m.group().matches("[a-z]+|[0-9]+");
                // a word without its blank is spoilt, so that nothing takes it
                words.add(word && m.start() == behindWord ? "?" : m.group());
                starts.add(m.start());
                behindWord = word ? m.end() : -1;
            }
            words.add("");
            starts.add(tape.length());
        }

        Wrong wrong() { return new Wrong(starts.get(at)); }

        boolean takes(String w) {
            if (!words.get(at).equals(w)) {
                return false;
            }
            at++;
            return true;
        }

        Law law() {
            key = List.of("press", "fee", "fine").indexOf(words.get(at));
            if (key < 0) {
                throw wrong();
            }
            at++;
            Law law = new Law();
            law.key = key;
            law.tree = either(0, 0);
            if (at != words.size() - 1) {
                throw wrong();
            }
            law.leaves = leaves;
            return law;
        }

        Node either(int parens, int nots) {
            Node a = both(parens, nots);
            while (takes("|")) {
                Node l = a, r = both(parens, nots);
                a = n -> (l.of(n) != 0) | (r.of(n) != 0) ? 1 : 0;
            }
            return a;
        }

        Node both(int parens, int nots) {
            Node a = test(parens, nots);
            while (takes("&")) {
                Node l = a, r = test(parens, nots);
                a = n -> (l.of(n) != 0) & (r.of(n) != 0) ? 1 : 0;
            }
            return a;
        }

        Node test(int parens, int nots) {
            Node l = sum(parens, nots);
            if (takes("<")) {
                Node r = sum(parens, nots);
                return n -> l.of(n) < r.of(n) ? 1 : 0;
            }
            if (takes("=")) {
                Node r = sum(parens, nots);
                return n -> l.of(n) == r.of(n) ? 1 : 0;
            }
            if (takes(">")) {
                Node r = sum(parens, nots);
                return n -> l.of(n) > r.of(n) ? 1 : 0;
            }
            return l;
        }

        Node sum(int parens, int nots) {
            Node a = term(parens, nots);
            while (true) {
                Node l = a;
                if (takes("+")) {
                    Node r = term(parens, nots);
                    a = n -> l.of(n) + r.of(n);
                } else if (takes("-")) {
                    Node r = term(parens, nots);
                    a = n -> l.of(n) - r.of(n);
                } else {
                    return a;
                }
            }
        }

        Node term(int parens, int nots) {
            Node a = piece(parens, nots);
            while (true) {
                Node l = a;
                if (takes("*")) {
                    Node r = piece(parens, nots);
                    a = n -> l.of(n) * r.of(n);
                } else if (takes("/")) {
                    Node r = piece(parens, nots);
                    a = n -> r.of(n) == 0 ? 0 : l.of(n) / r.of(n);
                } else {
                    return a;
                }
            }
        }

        Node piece(int parens, int nots) {
            String w = words.get(at);
            if (w.matches("[0-9]{1,4}")) {
                int number = Integer.parseInt(w);
                at++;
                leaves++;
                return n -> number;
            }
            if (w.length() == 1 && new String[] {"hokt", "pt", "sk"}[key].contains(w)) {
                char name = w.charAt(0);
                at++;
                leaves++;
                return n -> n.get(name);
            }
            if (w.equals("!") && nots < 8) {
                at++;
                Node inner = piece(parens, nots + 1);
                return n -> inner.of(n) == 0 ? 1 : 0;
            }
            if (w.equals("(") && parens < 8) {
                at++;
                Node inner = either(parens + 1, nots);
                if (!takes(")")) {
                    throw wrong();
                }
                return inner;
            }
            throw wrong();
        }
    }

    // ---- the world that images keep

    static final class World {
        List<Trouser> legs = new ArrayList<>();
        int rain = 20, feel = 1, care = 40, heat = 60;
        int pressed, twos, soaked, day, z = 1;
        List<Law> laws = new ArrayList<>();

        World twin() {
            World w = new World();
            for (Trouser t : legs) {
                w.legs.add(t.twin());
            }
            w.rain = rain;
            w.feel = feel;
            w.care = care;
            w.heat = heat;
            w.pressed = pressed;
            w.twos = twos;
            w.soaked = soaked;
            w.day = day;
            w.z = z;
            w.laws.addAll(laws);
            return w;
        }

        int counts(int key) {
            for (int i = laws.size() - 1; i >= 0; i--) {
                if (laws.get(i).key == key) {
                    return i;
                }
            }
            return NONE;
        }

        int plain(Trouser t) {
            int law = counts(0);
            int v = law == NONE ? heat + 3 * t.holds
                    : laws.get(law).tree.of(java.util.Map.of('h', heat, 'o', t.holds, 'k', t.knee, 't', t.tram));
            return v < 0 ? 0 : v > 99 ? 99 : v;
        }

        int draw() {
            z = (int) (z * 1103515245L + 12345L);
            return z >>> 8;
        }

        boolean press(int leg, int d) {
            Trouser old = legs.get(leg);
            Trouser t = old.twin();
            boolean along = d <= feel && -d <= feel;
            if (along) {
                t.tram = old.tram / 2;
                t.holds = old.holds == 9 ? 9 : old.holds + 1;
            } else {
                t.tram = old.sharp;
                t.place = (old.place + d + 60) % 60;
                t.holds = 1;
                twos++;
            }
            t.sharp = old.cloth().takes(this, old);
            t.knee = old.knee / 2;
            legs.set(leg, t);
            pressed++;
            return along;
        }

        int dullest() {
            int best = NONE;
            for (int i = legs.size() - 1; i >= 0; i--) {
                if (best == NONE || legs.get(i).sharp <= legs.get(best).sharp) {
                    best = i;
                }
            }
            return best;
        }

        World pass(int n) {
            for (int i = 0; i < n; i++) {
                int many = legs.size();
                for (int k = 0; k < many; k++) {
                    Trouser old = legs.get(k);
                    Trouser t = old.twin();
                    if (k == day % many) {
                        t.sharp = Math.max(0, old.sharp - old.cloth().loses(old));
                        t.knee = Math.min(99, old.knee + old.cloth().bags());
                    } else {
                        t.knee = Math.max(0, old.knee - 2);
                    }
                    legs.set(k, t);
                }
                boolean rains = draw() % 100 < rain;
                if (rains && many > 0) {
                    Trouser t = legs.get(day % many);
                    t.sharp /= 2;
                    t.tram /= 2;
                    soaked++;
                }
                if (many > 0 && legs.get(dullest()).sharp < care) {
                    int d = draw() % 7 - 3;
                    press(dullest(), d);
                }
                day++;
            }
            return this;
        }

        int total() { return legs.stream().mapToInt(t -> t.sharp).sum(); }

        int trams() {
            int bits = 0;
            for (int i = 0; i < legs.size(); i++) {
                bits += legs.get(i).tram > 0 ? 1 << i : 0;
            }
            return bits;
        }
    }

    World w = new World(), kept = null;
    String tape = "";
    Integer[][] sheets = new Integer[4][];
    boolean[] floats = new boolean[4];
    Object[] slots = new Object[5];
    List<Integer> told = new ArrayList<>();

    static boolean in(int v, int lo, int hi) { return lo <= v && v <= hi; }

    boolean has(int leg) { return in(leg, 0, w.legs.size() - 1); }

    int leg(int kind, int place, int sharp) {
        if (!in(kind, 0, 5) || !in(place, 0, 59) || !in(sharp, 0, 99)) return BAD;
        if (w.legs.size() == 10) return FULL;
        w.legs.add(new Trouser(kind, place, sharp));
        return w.legs.size() - 1;
    }

    int told(int leg, int what) {
        if (!has(leg) || !in(what, 0, 9)) return BAD;
        Trouser t = w.legs.get(leg);
        return new int[] {t.kind, t.place, t.sharp, t.tram, t.knee, t.holds,
            t.cloth().takes(w, t), t.cloth().loses(t), t.cloth().bags(), t.cloth().worth(t)}[what];
    }

    int as(int leg, int kind) {
        if (!has(leg) || !in(kind, 0, 5)) return BAD;
        return w.legs.get(leg).under(kind) ? w.legs.get(leg).place : KIND;
    }

    int turns(int leg, int kind) {
        if (!has(leg) || !in(kind, 0, 5)) return BAD;
        int was = w.legs.get(leg).kind;
        w.legs.get(leg).kind = kind;
        return was;
    }

    int set(int leg, int what, int v) {
        if (!has(leg) || !in(what, 1, 5) || v < 0 || v > new int[] {0, 59, 99, 99, 99, 9}[what]) return BAD;
        int was = told(leg, what);
        Trouser t = w.legs.get(leg);
        if (what == 1) t.place = v;
        if (what == 2) t.sharp = v;
        if (what == 3) t.tram = v;
        if (what == 4) t.knee = v;
        if (what == 5) t.holds = v;
        return was;
    }

    int irons(int leg, int d) {
        if (!has(leg) || !in(d, -3, 3)) return BAD;
        return w.press(leg, d) ? 1 : 0;
    }

    int rule(int what, int v) {
        if (!in(what, 0, 3) || v < 0 || v > new int[] {100, 3, 99, 99}[what]) return BAD;
        int was = count(2 + what);
        if (what == 0) w.rain = v;
        if (what == 1) w.feel = v;
        if (what == 2) w.care = v;
        if (what == 3) w.heat = v;
        return was;
    }

    int deal(int n) {
        if (!in(n, 1, 10)) return BAD;
        int came = 0;
        while (came < n && w.legs.size() < 10) {
            int kind = w.draw() % 6, place = w.draw() % 60, sharp = w.draw() % 100;
            w.legs.add(new Trouser(kind, place, sharp));
            came++;
        }
        return came;
    }

    int seed(int v) {
        int was = w.z;
        w.z = v;
        return was;
    }

    int days(int n) {
        if (!in(n, 1, 100)) return BAD;
        int was = w.pressed;
        for (int i = 0; i < n && w.day < 9999; i++) {
            w.pass(1);
        }
        return w.pressed - was;
    }

    int closet(int what) {
        if (!in(what, 0, 5)) return BAD;
        return new int[] {w.pressed, w.twos, w.soaked, w.total(), w.trams(), w.dullest()}[what];
    }

    int behind(int n, int what) {
        if (!in(n, 0, 100) || what < 0 || what > 2 && !has(what - 3)) return BAD;
        World t = w.twin().pass(n);
        if (what == 0) return t.pressed;
        if (what == 1) return t.twos;
        return what == 2 ? Integer.bitCount(t.trams()) : t.legs.get(what - 3).sharp;
    }

    int when(Predicate<World> holds) {
        World t = w.twin();
        for (int n = 0; n <= 200; n++) {
            if (holds.test(t)) return n;
            t.pass(1);
        }
        return NONE;
    }

    int dulls(int leg, int v) {
        return has(leg) && in(v, 0, 99) ? when(t -> t.legs.get(leg).sharp < v) : BAD;
    }

    int doubles(int leg) { return has(leg) ? when(t -> t.legs.get(leg).tram > 0) : BAD; }

    int wax(int n) {
        if (!in(n, 0, 20)) return BAD;
        int best = NONE;
        for (int s = (1 << w.legs.size()) - 1; s >= 0; s--) {
            if (best != NONE && Integer.bitCount(s) > Integer.bitCount(best)) continue;
            World t = w.twin();
            for (int i = 0; i < 10; i++) {
                if ((s & 1 << i) > 0) t.legs.get(i).kind = 3;
            }
            t.pass(n);
            if (t.legs.stream().noneMatch(l -> l.sharp < t.care)) best = s;
        }
        return best;
    }

    int iron(int n, int v) {
        if (!in(n, 0, 30) || !in(v, 0, 990)) return BAD;
        int best = NONE;
        for (int heat = 99; heat >= 0; heat--) {
            World t = w.twin();
            t.heat = heat;
            if (t.pass(n).total() >= v) best = heat;
        }
        return best;
    }

    int first(int n, int what) {
        if (!in(n, 1, 60) || !in(what, 0, 1)) return BAD;
        int best = NONE, most = NONE;
        for (int i = w.legs.size() - 1; i >= 0; i--) {
            World t = w.twin();
            t.press(i, 0);
            int sum = t.pass(n).total();
            if (sum >= most) {
                most = sum;
                best = i;
            }
        }
        return what == 0 ? best : most;
    }

    int becomes(int leg, int n, int what) {
        if (!has(leg) || !in(n, 1, 60) || !in(what, 0, 1)) return BAD;
        int best = NONE, most = NONE;
        for (int kind = 5; kind >= 0; kind--) {
            World t = w.twin();
            t.legs.get(leg).kind = kind;
            int sum = t.pass(n).total();
            if (sum >= most) {
                most = sum;
                best = kind;
            }
        }
        return what == 0 ? best : most;
    }

    int like(int sheet, int what) {
        if (!in(sheet, 0, 3) || !in(what, 0, 1)) return BAD;
        if (sheets[sheet] == null) return NOTHING;
        if (w.legs.isEmpty()) return NONE;
        int best = 0, least = Integer.MAX_VALUE;
        for (int i = w.legs.size() - 1; i >= 0; i--) {
            int sum = 0;
            for (int k = 0; k < sheets[sheet].length; k++) {
                if (sheets[sheet][k] != null) sum += Math.abs(w.twin().pass(k).legs.get(i).place - sheets[sheet][k]);
            }
            if (sum <= least) {
                least = sum;
                best = i;
            }
        }
        return what == 0 ? best : least;
    }

    int fee() {
        int law = w.counts(1);
        return law == NONE ? w.pressed : w.laws.get(law).tree.of(java.util.Map.of('p', w.pressed, 't', w.twos));
    }

    int fine(int leg) {
        if (!has(leg)) return BAD;
        Trouser t = w.legs.get(leg);
        int law = w.counts(2);
        return law == NONE ? t.sharp : w.laws.get(law).tree.of(java.util.Map.of('s', t.sharp, 'k', t.knee));
    }

    int feed(int a, int b, int c) {
        if (tape.length() + 12 > 96) return FULL;
        for (byte one : java.nio.ByteBuffer.allocate(12).putInt(a).putInt(b).putInt(c).array()) {
            tape += (char) (one & 255);
        }
        return tape.length();
    }

    int trim(int n) {
        if (!in(n, 0, tape.length())) return BAD;
        tape = tape.substring(0, n);
        return n;
    }

    int text() {
        String read = tape;
        tape = "";
        try {
            Law law = new Descent(read).law();
            if (w.laws.size() == 14) return FULL;
            w.laws.add(law);
            return w.laws.size() - 1;
        } catch (Wrong wrong) {
            return -100 - wrong.place;
        }
    }

    int textTold(int text, int what) {
        if (!in(text, 0, w.laws.size() - 1) || !in(what, 0, 1)) return BAD;
        return what == 0 ? w.laws.get(text).key : w.laws.get(text).leaves;
    }

    int why(int key) { return in(key, 0, 2) ? w.counts(key) : BAD; }

    int sheet(int sheet, int sort, int n) {
        if (!in(sheet, 0, 3) || !in(sort, -1, 1)) return BAD;
        if (sort == -1) {
            sheets[sheet] = null;
            return 0;
        }
        if (n > 24) return BAD;
        if (n < 0) return SIZE;
        sheets[sheet] = new Integer[n];
        java.util.Arrays.fill(sheets[sheet], 0);
        floats[sheet] = sort == 1;
        return n;
    }

    int mark(int sheet, int place, int v) {
        if (!in(sheet, 0, 3)) return BAD;
        if (sheets[sheet] == null) return NOTHING;
        if (!in(place, 0, sheets[sheet].length - 1)) return INDEX;
        if (!floats[sheet]) {
            if (v == NONE) return KIND;
            sheets[sheet][place] = (v & 65535) > 32767 ? (v & 65535) - 65536 : v & 65535;
            return 1;
        }
        if (v == NONE) {
            sheets[sheet][place] = null;
            return 1;
        }
        if (!in(v, -99999, 99999)) return BAD;
        sheets[sheet][place] = v;
        return 1;
    }

    int pour(int sheet) {
        if (!in(sheet, 0, 3)) return BAD;
        if (sheets[sheet] == null) return NOTHING;
        int other = 0;
        for (int i = 0; i < w.legs.size(); i++) {
            if (i >= sheets[sheet].length || sheets[sheet][i] == null) continue;
            int was = w.legs.get(i).sharp, v = sheets[sheet][i];
            w.legs.get(i).sharp = v < 0 ? 0 : v > 99 ? 99 : v;
            if (was != w.legs.get(i).sharp) other++;
        }
        return other;
    }

    int reads(int sheet) {
        if (!in(sheet, 0, 3)) return BAD;
        if (sheets[sheet] == null) return NOTHING;
        for (int i = 0; i < sheets[sheet].length; i++) {
            Integer v = sheets[sheet][i];
            if (v == null) continue;
            if (i >= w.legs.size() || w.legs.get(i).place != v) return i;
        }
        return NONE;
    }

    int copy(int from, int place, int to, int at, int many) {
        if (!in(from, 0, 3) || !in(to, 0, 3)) return BAD;
        if (sheets[from] == null || sheets[to] == null) return NOTHING;
        if (floats[from] != floats[to]) return KIND;
        if (many < 0 || place < 0 || at < 0) return INDEX;
        if ((long) place + many > sheets[from].length || (long) at + many > sheets[to].length) return INDEX;
        Integer[] were = sheets[from].clone();
        for (int i = 0; i < many; i++) {
            sheets[to][at + i] = were[place + i];
        }
        return many;
    }

    int held(int slot) {
        Object o = slots[slot];
        return o == null ? 0 : o instanceof Trouser ? 1 : o instanceof Integer[] ? 2 : 3;
    }

    int lay(int slot, int thing, int k) {
        if (!in(slot, 0, 4) || !in(thing, 0, 3)) return BAD;
        if (thing == 1 && !has(k) || thing == 2 && !in(k, 0, 3)) return BAD;
        if (thing == 2 && sheets[k] == null) return NOTHING;
        int was = held(slot);
        if (thing == 0) slots[slot] = null;
        if (thing == 1) slots[slot] = w.legs.get(k).twin();
        if (thing == 2) slots[slot] = sheets[k].clone();
        if (thing == 3) slots[slot] = k;
        return was;
    }

    int ask(int slot, int kind) {
        if (!in(slot, 0, 4) || !in(kind, 0, 5)) return BAD;
        if (slots[slot] == null) return NOTHING;
        if (!(slots[slot] instanceof Trouser t) || !t.under(kind)) return KIND;
        return t.cloth().worth(t);
    }

    int item(int slot, int place) {
        if (!in(slot, 0, 4)) return BAD;
        if (slots[slot] == null) return NOTHING;
        if (!(slots[slot] instanceof Integer[] row)) return KIND;
        if (!in(place, 0, row.length - 1)) return INDEX;
        return row[place] == null ? KIND : row[place];
    }

    int rest(int slot, int n) {
        if (!in(slot, 0, 4)) return BAD;
        if (slots[slot] == null) return NOTHING;
        if (!(slots[slot] instanceof Integer v)) return KIND;
        return n == 0 ? NO : (int) ((long) v % n);
    }

    int tell(int v) {
        if (told.size() == 60) return FULL;
        told.add(v);
        return told.size();
    }

    int check(int n) {
        List<Integer> rows = told;
        told = new ArrayList<>();
        if (!in(n, 1, 30)) return BAD;
        if (kept == null) return NO;
        List<Integer> due = new ArrayList<>();
        World t = kept.twin();
        for (int i = 0; i < n && t.day < 9999; i++) {
            t.pass(1);
            due.add(t.pressed);
            due.add(t.total());
        }
        if (due.equals(rows)) return 0;
        int right = 0;
        while (right < due.size() && right < rows.size() && due.get(right).equals(rows.get(right))) {
            right++;
        }
        return 1 + right;
    }

    int keep() {
        kept = w.twin();
        return w.legs.size();
    }

    int back() {
        if (kept == null) return NO;
        w = kept.twin();
        return w.legs.size();
    }

    int count(int what) {
        if (!in(what, 0, 9)) return BAD;
        return new int[] {w.legs.size(), w.day, w.rain, w.feel, w.care, w.heat, w.laws.size(), told.size(), tape.length(), w.z}[what];
    }
}
