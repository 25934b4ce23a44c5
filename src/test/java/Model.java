import java.nio.charset.StandardCharsets;
import java.util.ArrayDeque;
import java.util.ArrayList;
import java.util.Arrays;
import java.util.Collections;
import java.util.Deque;
import java.util.HashMap;
import java.util.HashSet;
import java.util.LinkedHashMap;
import java.util.List;
import java.util.Map;
import java.util.NoSuchElementException;
import java.util.Set;
import java.util.TreeMap;
import java.util.function.ToIntFunction;
import java.util.regex.Matcher;
import java.util.regex.Pattern;

/** The document written a second time, slowly, with the Java library: what ModelTest holds the class against. */
public final class Model {
    static final int NONE = -1;

    record Quarrel(int heat, int word, int cut) {
    }

    /** Two people, the lesser first. */
    record Two(int a, int b) implements Comparable<Two> {
        static Two of(int x, int y) {
            return x < y ? new Two(x, y) : new Two(y, x);
        }

        boolean has(int p) {
            return a == p || b == p;
        }

        int otherThan(int p) {
            return a == p ? b : a;
        }

        @Override
        public int compareTo(Two o) {
            return a != o.a ? Integer.compare(a, o.a) : Integer.compare(b, o.b);
        }
    }

    static final class Person {
        int nerve;
        int drawer;
        int wed = NONE;
        boolean lives = true;
        boolean lawyer;

        Person copy() {
            Person p = new Person();
            p.nerve = nerve;
            p.drawer = drawer;
            p.wed = wed;
            p.lives = lives;
            p.lawyer = lawyer;
            return p;
        }
    }

    interface Expr extends ToIntFunction<Map<String, Integer>> {
    }

    static final class State {
        List<Person> people = new ArrayList<>();
        TreeMap<Two, Quarrel> quarrels = new TreeMap<>();
        int week;
        Expr heats;
        Expr cuts;

        State copy() {
            State s = new State();
            for (Person p : people) {
                s.people.add(p.copy());
            }
            s.quarrels.putAll(quarrels);
            s.week = week;
            s.heats = heats;
            s.cuts = cuts;
            return s;
        }

        List<Integer> living() {
            List<Integer> l = new ArrayList<>();
            for (int i = 0; i < people.size(); i++) {
                if (people.get(i).lives) {
                    l.add(i);
                }
            }
            return l;
        }

        Map<String, Integer> values(Two t) {
            Map<String, Integer> v = new HashMap<>();
            Quarrel q = quarrels.get(t);
            int na = people.get(t.a).nerve;
            int nb = people.get(t.b).nerve;
            int many = 0;
            for (Two o : quarrels.keySet()) {
                if (o.has(t.a) || o.has(t.b)) {
                    many++;
                }
            }
            v.put("heat", q.heat);
            v.put("nerve", na + nb);
            v.put("unlike", na > nb ? na - nb : nb - na);
            v.put("many", many);
            v.put("cut", q.cut);
            v.put("week", week);
            return v;
        }

        boolean wouldCut(Two t) {
            return cuts == null ? quarrels.get(t).heat >= 20 : cuts.applyAsInt(values(t)) > 0;
        }

        void goBy(int weeks) {
            for (int w = 0; w < weeks; w++) {
                for (Two t : new ArrayList<>(quarrels.keySet())) {
                    Quarrel q = quarrels.get(t);
                    Map<String, Integer> v = values(t);
                    int more;
                    if (heats == null) {
                        more = v.get("nerve") > 9 ? 1 : -1;
                    } else {
                        more = heats.applyAsInt(v);
                        more = more > 9 ? 9 : more < -9 ? -9 : more;
                    }
                    int heat = q.heat + more;
                    heat = heat > 99 ? 99 : heat;
                    if (heat <= 0) {
                        quarrels.remove(t);
                        continue;
                    }
                    quarrels.put(t, new Quarrel(heat, q.word, q.cut));
                    if (wouldCut(t)) {
                        quarrels.put(t, new Quarrel(heat, q.word, Math.min(99, q.cut + 1)));
                    }
                }
                week++;
            }
        }

        void dies(int p) {
            Person dead = people.get(p);
            int heir = dead.wed;
            dead.lives = false;
            dead.wed = NONE;
            if (heir != NONE) {
                people.get(heir).wed = NONE;
                people.get(heir).drawer |= dead.drawer;
            }
            for (Two t : new ArrayList<>(quarrels.keySet())) {
                if (!t.has(p)) {
                    continue;
                }
                Quarrel q = quarrels.remove(t);
                int with = t.otherThan(p);
                if (heir == NONE || heir == with) {
                    continue;
                }
                Two n = Two.of(heir, with);
                Quarrel there = quarrels.get(n);
                if (there != null) {
                    quarrels.put(n, new Quarrel(Math.min(99, there.heat + q.heat), there.word, there.cut));
                } else {
                    quarrels.put(n, new Quarrel(q.heat, q.word, 0));
                }
            }
        }

        boolean canWed(int p, int o) {
            return p != o && people.get(p).lives && people.get(o).lives
                && people.get(p).wed == NONE && people.get(o).wed == NONE;
        }

        void wed(int p, int o) {
            people.get(p).wed = o;
            people.get(o).wed = p;
            quarrels.remove(Two.of(p, o));
        }

        boolean canPick(int p, int o) {
            return p != o && people.get(p).lives && people.get(o).lives && !has(p, o) && people.get(p).wed != o;
        }

        boolean has(int p, int o) {
            return quarrels.containsKey(Two.of(p, o));
        }

        boolean canSettle(Two t) {
            Quarrel q = quarrels.get(t);
            if (q == null) {
                return false;
            }
            for (int i = 0; i < people.size(); i++) {
                Person p = people.get(i);
                boolean asked = t.has(i) || p.lawyer && p.lives;
                if (asked && (p.drawer & 1 << q.word) != 0) {
                    return true;
                }
            }
            return false;
        }

        int heatAll() {
            return quarrels.values().stream().mapToInt(Quarrel::heat).sum();
        }

        int heatOf(int p) {
            int sum = 0;
            for (Map.Entry<Two, Quarrel> e : quarrels.entrySet()) {
                sum += e.getKey().has(p) ? e.getValue().heat : 0;
            }
            return sum;
        }

        int heat(Two t) {
            Quarrel q = quarrels.get(t);
            return q == null ? 0 : q.heat;
        }

        int needed() {
            int bits = 0;
            for (Quarrel q : quarrels.values()) {
                bits |= 1 << q.word;
            }
            return bits;
        }
    }

    // ---- the text

    static final class Fault extends RuntimeException {
        private static final long serialVersionUID = 1;
        final int code;
        final int place;

        Fault(int code, int place) {
            super(code + " at " + place);
            this.code = code;
            this.place = place;
        }
    }

    record Token(char kind, String text, int place) {
        boolean is(String s) {
            return text.equals(s);
        }
    }

    /** Kinds: w word, n number, s sign, x none, e the end. */
    static List<Token> tokens(String text) {
        List<Token> list = new ArrayList<>();
        Matcher m = Pattern.compile("[ \\n]+|([a-z]+)|([0-9]+)|([-;()+*/<=])|([\\s\\S])").matcher(text);
        while (m.find()) {
            char kind = m.group(1) != null ? 'w' : m.group(2) != null ? 'n' : m.group(3) != null ? 's'
                : m.group(4) != null ? 'x' : ' ';
            if (kind != ' ') {
                list.add(new Token(kind, m.group(), m.start()));
            }
        }
        list.add(new Token('e', "", text.length()));
        return list;
    }

    static final Set<String> VALUES = Set.of("heat", "nerve", "unlike", "many", "cut", "week");

    static final class Parser {
        final List<Token> tokens;
        int at;
        final State town = new State();

        Parser(String text) {
            tokens = tokens(text);
        }

        Token t() {
            return tokens.get(at);
        }

        Fault bad(int code) {
            return new Fault(code, t().place);
        }

        boolean sees(String s) {
            return t().kind != 'e' && t().kind != 'x' && t().is(s);
        }

        boolean eat(String s) {
            if (sees(s)) {
                at++;
                return true;
            }
            return false;
        }

        void must(String s) {
            if (!eat(s)) {
                throw bad(1);
            }
        }

        int digits() {
            if (t().kind != 'n') {
                throw bad(1);
            }
            if (t().text.length() > 4) {
                throw bad(2);
            }
            return Integer.parseInt(t().text);
        }

        int number(int low, int high) {
            int n = digits();
            if (n < low || n > high) {
                throw bad(2);
            }
            at++;
            return n;
        }

        int person(boolean single, int first) {
            int n = digits();
            if (n >= town.people.size()) {
                throw bad(3);
            }
            if (n == first || single && town.people.get(n).wed != NONE) {
                throw bad(4);
            }
            return n;
        }

        State town() {
            while (t().kind != 'e') {
                line();
                must(";");
            }
            return town;
        }

        void line() {
            if (sees("person") || sees("lawyer")) {
                if (town.people.size() == 8) {
                    throw bad(2);
                }
                Person p = new Person();
                p.lawyer = sees("lawyer");
                at++;
                p.nerve = number(0, 9);
                p.drawer = number(0, 1023);
                town.people.add(p);
            } else if (eat("wed")) {
                int a = person(true, NONE);
                at++;
                int b = person(true, a);
                at++;
                town.people.get(a).wed = b;
                town.people.get(b).wed = a;
            } else if (eat("quarrel")) {
                int a = person(false, NONE);
                at++;
                int b = person(false, a);
                if (town.has(a, b)) {
                    throw bad(4);
                }
                at++;
                int heat = number(1, 99);
                int word = number(0, 9);
                town.quarrels.put(Two.of(a, b), new Quarrel(heat, word, 0));
            } else if (sees("heats")) {
                if (town.heats != null) {
                    throw bad(5);
                }
                at++;
                town.heats = expr(1);
            } else if (sees("cuts")) {
                if (town.cuts != null) {
                    throw bad(5);
                }
                at++;
                town.cuts = expr(1);
            } else {
                throw bad(1);
            }
        }

        Expr expr(int level) {
            if (level == 7) {
                throw bad(t().kind == 'n' || t().kind == 'w' || sees("(") ? 2 : 1);
            }
            Expr left = and(level);
            while (eat("or")) {
                Expr l = left;
                Expr r = and(level);
                left = v -> l.applyAsInt(v) != 0 | r.applyAsInt(v) != 0 ? 1 : 0;
            }
            return left;
        }

        Expr and(int level) {
            Expr left = not(level, 1);
            while (eat("and")) {
                Expr l = left;
                Expr r = not(level, 1);
                left = v -> l.applyAsInt(v) != 0 & r.applyAsInt(v) != 0 ? 1 : 0;
            }
            return left;
        }

        Expr not(int level, int nth) {
            if (sees("not")) {
                if (nth == 7) {
                    throw bad(2);
                }
                at++;
                Expr e = not(level, nth + 1);
                return v -> e.applyAsInt(v) == 0 ? 1 : 0;
            }
            Expr l = sum(level);
            if (eat("<")) {
                Expr r = sum(level);
                return v -> l.applyAsInt(v) < r.applyAsInt(v) ? 1 : 0;
            }
            if (eat("=")) {
                Expr r = sum(level);
                return v -> l.applyAsInt(v) == r.applyAsInt(v) ? 1 : 0;
            }
            return l;
        }

        Expr sum(int level) {
            Expr left = product(level);
            while (sees("+") || sees("-")) {
                int sign = sees("+") ? 1 : -1;
                at++;
                Expr l = left;
                Expr r = product(level);
                left = v -> l.applyAsInt(v) + sign * r.applyAsInt(v);
            }
            return left;
        }

        Expr product(int level) {
            Expr left = part(level);
            while (sees("*") || sees("/")) {
                boolean times = sees("*");
                at++;
                Expr l = left;
                Expr r = part(level);
                left = v -> {
                    long a = l.applyAsInt(v);
                    long b = r.applyAsInt(v);
                    return times ? (int) (a * b) : b == 0 ? 0 : (int) (a / b);
                };
            }
            return left;
        }

        Expr part(int level) {
            Token t = t();
            if (t.kind == 'n') {
                int n = digits();
                at++;
                return v -> n;
            }
            if (t.kind == 'w') {
                if (!VALUES.contains(t.text)) {
                    throw bad(3);
                }
                at++;
                return v -> v.get(t.text);
            }
            must("(");
            Expr e = expr(level + 1);
            must(")");
            return e;
        }
    }

    // ---- the object

    record Sight(Two two, int weeks, int heat) {
    }

    static final class Kept {
        State state;
        List<State> acts;
        List<Sight> seen;
        int[] status;
    }

    private final StringBuilder tape = new StringBuilder();
    private State now = new State();
    private List<State> acts = new ArrayList<>();
    private List<Sight> seen = new ArrayList<>();
    private int[] status = new int[3];
    private Kept kept;
    private int faultAt = NONE;

    public int feed(int a, int b, int c, int d, int e) {
        if (tape.length() + 20 > 700) {
            return NONE;
        }
        for (int n : new int[] {a, b, c, d, e}) {
            byte[] four = {(byte) (n >>> 24), (byte) (n >>> 16), (byte) (n >>> 8), (byte) n};
            tape.append(new String(four, StandardCharsets.ISO_8859_1));
        }
        return tape.length();
    }

    public int town(int n) {
        if (n < 0 || n > tape.length()) {
            throw new IllegalArgumentException();
        }
        String text = tape.substring(0, n);
        tape.setLength(0);
        try {
            State fresh = new Parser(text).town();
            now = fresh;
            acts = new ArrayList<>();
            seen = new ArrayList<>();
            kept = null;
            faultAt = NONE;
            return 0;
        } catch (Fault f) {
            status[0]++;
            faultAt = f.place;
            return f.code;
        }
    }

    public int fault() {
        return faultAt;
    }

    private static int bits(Iterable<Integer> numbers) {
        int b = 0;
        for (int n : numbers) {
            b |= 1 << n;
        }
        return b;
    }

    private void need(boolean there) {
        if (!there) {
            throw new NoSuchElementException();
        }
    }

    private void allow(boolean fine) {
        if (!fine) {
            throw new IllegalArgumentException();
        }
    }

    private void needPerson(int... persons) {
        for (int p : persons) {
            need(p >= 0 && p < now.people.size());
        }
    }

    public int count(int what) {
        need(what >= 0 && what <= 13);
        return switch (what) {
            case 0 -> now.people.size();
            case 1 -> bits(now.living());
            case 2 -> now.week;
            case 3 -> now.quarrels.size();
            case 4 -> now.heatAll();
            case 5 -> now.needed();
            case 6 -> tables();
            case 7 -> asked();
            case 8 -> acts.size();
            case 9 -> seen.size();
            case 10 -> tape.length();
            default -> status[what - 11];
        };
    }

    /** Tries 0, 1, 2 .. tables: each in turn sits at one of them. */
    private int tables() {
        List<Integer> l = now.living();
        for (int k = 0;; k++) {
            if (seat(l, new HashMap<>(), 0, k)) {
                return k;
            }
        }
    }

    private boolean seat(List<Integer> l, Map<Integer, Integer> at, int i, int k) {
        if (i == l.size()) {
            return true;
        }
        for (int t = 0; t < k; t++) {
            boolean free = true;
            for (Map.Entry<Integer, Integer> e : at.entrySet()) {
                free &= e.getValue() != t || !now.has(e.getKey(), l.get(i));
            }
            if (free) {
                at.put(l.get(i), t);
                if (seat(l, at, i + 1, k)) {
                    return true;
                }
                at.remove(l.get(i));
            }
        }
        return false;
    }

    /** All groups of those who live, fewest first, of as many the least as bits first. */
    private List<List<Integer>> groups() {
        List<Integer> l = now.living();
        List<List<Integer>> all = new ArrayList<>();
        for (int m = 0; m < 1 << l.size(); m++) {
            List<Integer> g = new ArrayList<>();
            for (int i = 0; i < l.size(); i++) {
                if ((m >> i & 1) == 1) {
                    g.add(l.get(i));
                }
            }
            all.add(g);
        }
        all.sort((x, y) -> x.size() != y.size() ? x.size() - y.size() : bits(x) - bits(y));
        return all;
    }

    private int asked() {
        List<Integer> best = List.of();
        for (List<Integer> g : groups()) {
            boolean calm = true;
            for (int a : g) {
                for (int b : g) {
                    calm &= !now.has(a, b);
                }
            }
            if (calm && g.size() > best.size()) {
                best = g;
            }
        }
        return bits(best);
    }

    private List<Integer> with(int p) {
        List<Integer> l = new ArrayList<>();
        for (Two t : now.quarrels.keySet()) {
            if (t.has(p)) {
                l.add(t.otherThan(p));
            }
        }
        return l;
    }

    public int person(int person, int what) {
        needPerson(person);
        need(what >= 0 && what <= 6);
        Person p = now.people.get(person);
        return switch (what) {
            case 0 -> p.nerve;
            case 1 -> p.drawer;
            case 2 -> p.wed;
            case 3 -> p.lives ? 1 : 0;
            case 4 -> p.lawyer ? 1 : 0;
            case 5 -> bits(with(person));
            default -> now.heatOf(person);
        };
    }

    public int quarrel(int person, int other, int what) {
        needPerson(person, other);
        need(what >= 0 && what <= 4);
        Two t = Two.of(person, other);
        Quarrel q = now.quarrels.get(t);
        if (q == null) {
            return NONE;
        }
        return switch (what) {
            case 0 -> q.heat;
            case 1 -> q.word;
            case 2 -> q.cut;
            case 3 -> now.canSettle(t) ? 1 : 0;
            default -> now.wouldCut(t) ? 1 : 0;
        };
    }

    private int refused(int which) {
        status[which]++;
        return NONE;
    }

    private void act() {
        acts.add(now.copy());
        if (acts.size() > 40) {
            acts.remove(0);
        }
    }

    public int weeks(int many) {
        if (many < 1 || many > 20 || now.week + many > 999) {
            return refused(1);
        }
        act();
        now.goBy(many);
        return now.week;
    }

    public int die(int person) {
        needPerson(person);
        if (!now.people.get(person).lives) {
            return refused(1);
        }
        act();
        now.dies(person);
        return now.quarrels.size();
    }

    public boolean wed(int person, int other) {
        needPerson(person, other);
        if (!now.canWed(person, other)) {
            refused(1);
            return false;
        }
        act();
        now.wed(person, other);
        return true;
    }

    public int settle(int person, int other) {
        needPerson(person, other);
        Two t = Two.of(person, other);
        if (!now.canSettle(t)) {
            return refused(1);
        }
        act();
        return now.quarrels.remove(t).word;
    }

    public int pick(int person, int other, int heat, int word) {
        needPerson(person, other);
        if (heat < 1 || heat > 99 || word < 0 || word > 9 || !now.canPick(person, other)) {
            return refused(1);
        }
        act();
        now.quarrels.put(Two.of(person, other), new Quarrel(heat, word, 0));
        return now.quarrels.size();
    }

    public int undo() {
        if (acts.isEmpty()) {
            return NONE;
        }
        now = acts.remove(acts.size() - 1);
        return acts.size();
    }

    private State behind(int weeks) {
        State s = now.copy();
        s.goBy(weeks);
        return s;
    }

    public int then(int person, int other, int weeks, int what) {
        needPerson(person, other);
        need(what == 0 || what == 1);
        allow(weeks >= 0 && weeks <= 60);
        if (!now.has(person, other)) {
            return NONE;
        }
        Quarrel q = behind(weeks).quarrels.get(Two.of(person, other));
        return q == null ? 0 : what == 0 ? q.heat : q.cut;
    }

    public int over(int person, int other) {
        needPerson(person, other);
        if (!now.has(person, other)) {
            return NONE;
        }
        for (int w = 1; w <= 60; w++) {
            if (!behind(w).has(person, other)) {
                return w;
            }
        }
        return NONE;
    }

    public int peace() {
        for (int w = 0; w <= 60; w++) {
            if (behind(w).quarrels.isEmpty()) {
                return w;
            }
        }
        return NONE;
    }

    public int later(int weeks, int what) {
        need(what >= 0 && what <= 2);
        allow(weeks >= 0 && weeks <= 60);
        State s = behind(weeks);
        if (what == 1) {
            return s.quarrels.size();
        }
        if (what == 0) {
            int most = 0;
            int best = NONE;
            for (Two t : s.quarrels.keySet()) {
                if (s.heat(t) > most) {
                    most = s.heat(t);
                    best = 10 * t.a + t.b;
                }
            }
            return best;
        }
        int best = NONE;
        for (int p : s.living()) {
            if (best == NONE || s.heatOf(p) > s.heatOf(best)) {
                best = p;
            }
        }
        return best;
    }

    private State without(int p) {
        State s = now.copy();
        s.dies(p);
        return s;
    }

    public int comesInto(int person, int what) {
        needPerson(person);
        need(what == 0 || what == 1);
        Person p = now.people.get(person);
        if (!p.lives) {
            return NONE;
        }
        if (p.wed == NONE) {
            return 0;
        }
        State s = without(person);
        if (what == 1) {
            return s.heatOf(p.wed);
        }
        return (int) s.quarrels.keySet().stream().filter(t -> t.has(p.wed)).count();
    }

    /** By colours: each who has none yet, the least first, is 0, and gives 1 to whom one has a quarrel with. */
    public int camps() {
        Map<Integer, Integer> side = new HashMap<>();
        for (int p : now.living()) {
            if (side.containsKey(p)) {
                continue;
            }
            Deque<Integer> open = new ArrayDeque<>(List.of(p));
            side.put(p, 0);
            while (!open.isEmpty()) {
                int x = open.remove();
                for (int y : with(x)) {
                    if (!side.containsKey(y)) {
                        side.put(y, 1 - side.get(x));
                        open.add(y);
                    } else if (side.get(y).equals(side.get(x))) {
                        return NONE;
                    }
                }
            }
        }
        int bits = 0;
        for (Map.Entry<Integer, Integer> e : side.entrySet()) {
            bits |= e.getValue() == 0 ? 1 << e.getKey() : 0;
        }
        return bits;
    }

    public int between(int person, int other) {
        needPerson(person, other);
        if (!now.people.get(person).lives || !now.people.get(other).lives) {
            return NONE;
        }
        Map<Integer, Integer> steps = new HashMap<>(Map.of(person, 0));
        Deque<Integer> open = new ArrayDeque<>(List.of(person));
        while (!open.isEmpty()) {
            int x = open.remove();
            for (int y : now.living()) {
                if (!now.has(x, y) && !steps.containsKey(y)) {
                    steps.put(y, steps.get(x) + 1);
                    open.add(y);
                }
            }
        }
        return steps.getOrDefault(other, NONE);
    }

    public int drawers() {
        for (List<Integer> g : groups()) {
            int all = 0;
            for (int p : g) {
                all |= now.people.get(p).drawer;
            }
            if ((all & now.needed()) == now.needed()) {
                return bits(g);
            }
        }
        return NONE;
    }

    public int deaths() {
        for (List<Integer> g : groups()) {
            State s = now.copy();
            for (int p : g) {
                s.dies(p);
            }
            if (s.quarrels.isEmpty()) {
                return bits(g);
            }
        }
        throw new AssertionError("all dead and no peace");
    }

    public int friends(int person) {
        needPerson(person);
        List<Integer> found = new ArrayList<>();
        if (now.people.get(person).lives) {
            for (int f : now.living()) {
                if (f != person && !now.has(f, person) && !Collections.disjoint(with(f), with(person))) {
                    found.add(f);
                }
            }
        }
        return bits(found);
    }

    public int spared(int person) {
        needPerson(person);
        return now.people.get(person).lives ? now.quarrels.size() - without(person).quarrels.size() : NONE;
    }

    public int match(int person) {
        needPerson(person);
        Map<Integer, Integer> heats = new LinkedHashMap<>();
        for (int o : now.living()) {
            if (now.canWed(person, o)) {
                heats.put(o, now.heatOf(o) - now.heat(Two.of(person, o)));
            }
        }
        int best = NONE;
        for (int o : heats.keySet()) {
            if (best == NONE || heats.get(o) < heats.get(best)) {
                best = o;
            }
        }
        return best;
    }

    public int ready() {
        return (int) now.quarrels.keySet().stream().filter(now::canSettle).count();
    }

    public int mildest() {
        int best = NONE;
        for (int p : now.living()) {
            if (best == NONE || now.people.get(p).nerve < now.people.get(best).nerve) {
                best = p;
            }
        }
        return best;
    }

    public int coldest(int weeks) {
        allow(weeks >= 0 && weeks <= 60);
        State s = behind(weeks);
        int best = NONE;
        int most = -1;
        for (int p : s.living()) {
            int sum = 0;
            for (Two t : s.quarrels.keySet()) {
                sum += t.has(p) ? s.quarrels.get(t).cut : 0;
            }
            if (sum > most) {
                most = sum;
                best = p;
            }
        }
        return best;
    }

    public int triples() {
        int many = 0;
        for (int a = 0; a < 8; a++) {
            for (int b = a + 1; b < 8; b++) {
                for (int c = b + 1; c < 8; c++) {
                    many += now.has(a, b) && now.has(a, c) && now.has(b, c) ? 1 : 0;
                }
            }
        }
        return many;
    }

    public int alone() {
        List<Integer> found = new ArrayList<>();
        for (int p : now.living()) {
            boolean all = true;
            for (int o : now.living()) {
                all &= o == p || now.has(p, o);
            }
            if (all) {
                found.add(p);
            }
        }
        return bits(found);
    }

    public int foes(int person, int other) {
        needPerson(person, other);
        List<Integer> both = with(person);
        both.retainAll(with(other));
        return bits(both);
    }

    public int word(int word) {
        need(word >= 0 && word <= 9);
        List<Integer> l = now.living();
        l.removeIf(p -> (now.people.get(p).drawer >> word & 1) == 0);
        return bits(l);
    }

    public int single() {
        List<Integer> l = now.living();
        l.removeIf(p -> now.people.get(p).wed != NONE);
        return bits(l);
    }

    public int cuts() {
        return now.quarrels.values().stream().mapToInt(Quarrel::cut).sum();
    }

    public int see(int person, int other, int weeks, int heat) {
        needPerson(person, other);
        if (seen.size() == 8 || person == other || weeks < 0 || weeks > 20 || heat < 0 || heat > 99) {
            return refused(2);
        }
        seen.add(new Sight(Two.of(person, other), weeks, heat));
        return seen.size();
    }

    private boolean fits(State from) {
        for (Sight s : seen) {
            State then = from.copy();
            then.goBy(s.weeks);
            if (then.heat(s.two) != s.heat) {
                return false;
            }
        }
        return true;
    }

    private Map<Integer, State> guesses() {
        Map<Integer, State> right = new LinkedHashMap<>();
        for (int p : now.living()) {
            for (int nerve = 0; nerve <= 9; nerve++) {
                State s = now.copy();
                s.people.get(p).nerve = nerve;
                if (now.people.get(p).nerve != nerve && fits(s)) {
                    right.put(10 * p + nerve, s);
                }
            }
        }
        return right;
    }

    public int nerved(int what) {
        need(what >= 0 && what <= 2);
        if (what == 2) {
            return fits(now) ? 1 : 0;
        }
        Map<Integer, State> right = guesses();
        return what == 0 ? right.size() : right.isEmpty() ? NONE : right.keySet().iterator().next();
    }

    public int look(int what) {
        need(what == 0 || what == 1);
        Map<Integer, State> right = guesses();
        for (State s : right.values()) {
            s.goBy(5);
        }
        int best = NONE;
        int most = 0;
        for (Two t : now.quarrels.keySet()) {
            Set<Integer> heats = new HashSet<>();
            for (State s : right.values()) {
                heats.add(s.heat(t));
            }
            if (heats.size() > most) {
                most = heats.size();
                best = 10 * t.a + t.b;
            }
        }
        return what == 0 ? best : most;
    }

    public void forget() {
        seen.clear();
    }

    public int game(int person, int other, int what) {
        needPerson(person, other);
        need(what == 0 || what == 1);
        allow(person != other);
        if (!now.has(person, other)) {
            return NONE;
        }
        int hot = behind(5).heat(Two.of(person, other)) / 9;
        int x = now.people.get(person).nerve;
        int y = now.people.get(other).nerve;
        int[][] mine = {{-hot, 5}, {-x, 2}};
        int[][] others = {{-hot, -y}, {5, 2}};
        List<Integer> rest = new ArrayList<>();
        for (int a = 0; a < 2; a++) {
            for (int b = 0; b < 2; b++) {
                if (mine[1 - a][b] <= mine[a][b] && others[a][1 - b] <= others[a][b]) {
                    rest.add(10 * a + b);
                }
            }
        }
        return what == 0 ? rest.size() : rest.isEmpty() ? NONE : rest.get(0);
    }

    private int seed;

    private int draw(int n) {
        seed = (int) (seed * 1103515245L + 12345L);
        return (seed >> 16 & 0x7fff) % n;
    }

    public int years(int start, int n, int what) {
        need(what >= 0 && what <= 2);
        allow(n >= 0 && n <= 60);
        seed = start;
        State s = now.copy();
        int people = s.people.size();
        for (int w = 0; w < n; w++) {
            int event = draw(8);
            if (people > 0 && event == 0) {
                int p = draw(people);
                if (s.people.get(p).lives) {
                    s.dies(p);
                }
            } else if (people > 0 && event == 1) {
                int p = draw(people);
                int o = draw(people);
                Quarrel q = new Quarrel(draw(30) + 1, draw(10), 0);
                if (s.canPick(p, o)) {
                    s.quarrels.put(Two.of(p, o), q);
                }
            } else if (people > 0 && event == 2) {
                int p = draw(people);
                int o = draw(people);
                if (s.canWed(p, o)) {
                    s.wed(p, o);
                }
            }
            s.goBy(1);
        }
        return what == 0 ? bits(s.living()) : what == 1 ? s.heatAll() : s.quarrels.size();
    }

    private static Kept keep(State state, List<State> acts, List<Sight> seen, int[] status) {
        Kept k = new Kept();
        k.state = state.copy();
        k.acts = new ArrayList<>();
        for (State a : acts) {
            k.acts.add(a.copy());
        }
        k.seen = new ArrayList<>(seen);
        k.status = status.clone();
        return k;
    }

    public void image() {
        kept = keep(now, acts, seen, status);
    }

    public boolean restore() {
        if (kept == null) {
            return false;
        }
        Kept k = keep(kept.state, kept.acts, kept.seen, kept.status);
        now = k.state;
        acts = k.acts;
        seen = k.seen;
        status = k.status;
        return true;
    }

    @Override
    public String toString() {
        return Arrays.toString(status);
    }
}
