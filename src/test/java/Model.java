import java.util.ArrayDeque;
import java.util.ArrayList;
import java.util.Arrays;
import java.util.Comparator;
import java.util.Deque;
import java.util.HashMap;
import java.util.HashSet;
import java.util.LinkedHashSet;
import java.util.List;
import java.util.Map;
import java.util.Set;
import java.util.TreeMap;
import java.util.regex.Matcher;
import java.util.regex.Pattern;

/** A second model of the document, as plain as the library lets it be: maps, snapshots, whole texts. */
final class Model {
    static final Comparator<List<Integer>> ORDER = (p, q) -> {
        for (int i = 0; i < Math.min(p.size(), q.size()); i++) {
            int order = Integer.compare(p.get(i), q.get(i));
            if (order != 0) {
                return order;
            }
        }
        return Integer.compare(p.size(), q.size());
    };
    static final Set<String> WORDS = new HashSet<>(Arrays.asList(("table view select where and project join on union"
            + " minus distinct group by count sum least most ring with keep").split(" ")));
    static final List<String> KINDS = Arrays.asList("table", "select", "project", "join", "union", "minus",
            "distinct", "group", "ring");

    static final class Bag extends TreeMap<List<Integer>, Integer> {
        private static final long serialVersionUID = 1L;

        Bag() {
            super(ORDER);
        }

        void more(List<Integer> tuple, int n) {
            int sum = getOrDefault(tuple, 0) + n;
            if (sum == 0) {
                remove(tuple);
            } else {
                put(tuple, sum);
            }
        }

        Bag less(Bag other) {
            Bag answer = new Bag();
            forEach(answer::more);
            other.forEach((t, n) -> answer.more(t, -n));
            return answer;
        }
    }

    static final class Rel {
        String kind;
        String name;
        int columns;
        Rel one;
        Rel two;
        int number;
        List<String[]> parts = new ArrayList<>();
        String[] on;
        String fold;
        int foldColumn;

        List<Rel> needs() {
            List<Rel> all = new ArrayList<>();
            if (one != null) {
                all.add(one);
            }
            if (two != null) {
                all.add(two);
            }
            return all;
        }

        int bits() {
            int bits = 0;
            for (Rel r : needs()) {
                bits |= 1 << r.number | r.bits();
            }
            return bits;
        }

        int far() {
            int far = 0;
            for (Rel r : needs()) {
                far = Math.max(far, r.far() + 1);
            }
            return far;
        }
    }

    static final class Fault extends RuntimeException {
        private static final long serialVersionUID = 1L;
        final int place;
        final int kind;

        Fault(int place, int kind) {
            this.place = place;
            this.kind = kind;
        }
    }

    static final class Refused extends RuntimeException {
        private static final long serialVersionUID = 1L;
        final int code;

        Refused(int code) {
            this.code = code;
        }
    }

    /** Reads a text; a token is a run, a sign, or (at the end) nothing. */
    static final class Text {
        static final Pattern TOKEN = Pattern.compile("[ \n]*([a-z0-9]+|[^ \n])?", Pattern.DOTALL);
        final String text;
        int place;
        String token;
        private int next;
        final List<Rel> rels = new ArrayList<>();
        final Map<String, Rel> names = new HashMap<>();

        Text(String text) {
            this.text = text;
            go();
        }

        void go() {
            Matcher m = TOKEN.matcher(text);
            m.find(next);
            token = m.group(1) == null ? "" : m.group(1);
            place = m.group(1) == null ? text.length() : m.start(1);
            next = m.end();
        }

        void check(boolean fine, int kind) {
            if (!fine) {
                throw new Fault(place, kind);
            }
        }

        boolean is(String what) {
            return token.equals(what);
        }

        void take(String what) {
            check(is(what), 1);
            go();
        }

        boolean isNumber() {
            return token.matches("[0-9]{1,4}");
        }

        boolean isName() {
            return token.matches("[a-z]{1,8}") && !WORDS.contains(token);
        }

        String taken() {
            String was = token;
            go();
            return was;
        }

        Rel relation() {
            check(isName(), 1);
            check(names.containsKey(token), 3);
            return names.get(taken());
        }

        void seeColumn(int columns) {
            check(token.matches("c[0-3]"), 1);
            check(token.charAt(1) - '0' < columns, 2);
        }

        List<Rel> read() {
            while (!is("")) {
                check(is("table") || is("view"), 1);
                check(rels.size() < 16, 4);
                boolean viewAhead = !rels.isEmpty() && !rels.get(rels.size() - 1).kind.equals("table");
                check(!(is("table") && viewAhead), 6);
                Rel rel = new Rel();
                rel.kind = taken();
                check(isName(), 1);
                check(!names.containsKey(token), 3);
                rel.name = taken();
                body(rel);
                take(";");
                rel.number = rels.size();
                rels.add(rel);
                names.put(rel.name, rel);
            }
            return rels;
        }

        void body(Rel rel) {
            if (rel.kind.equals("table")) {
                check(isNumber(), 1);
                rel.columns = Integer.parseInt(token);
                check(rel.columns >= 1 && rel.columns <= 4, 2);
                go();
                return;
            }
            take("=");
            check(KINDS.indexOf(token) > 0, 1);
            rel.kind = taken();
            rel.one = relation();
            int m = rel.one.columns;
            rel.columns = m;
            if (rel.kind.equals("select")) {
                take("where");
                tests(rel, m);
            } else if (rel.kind.equals("project")) {
                terms(rel, m);
                rel.columns = rel.parts.size();
            } else if (rel.kind.equals("join")) {
                join(rel, m);
            } else if (rel.kind.equals("union") || rel.kind.equals("minus")) {
                check(isName(), 1);
                check(names.containsKey(token), 3);
                check(names.get(token).columns == m, 5);
                rel.two = names.get(taken());
            } else if (rel.kind.equals("group")) {
                group(rel, m);
            } else if (rel.kind.equals("ring")) {
                ring(rel, m);
            }
        }

        void tests(Rel rel, int m) {
            do {
                if (!rel.parts.isEmpty()) {
                    take("and");
                }
                seeColumn(m);
                check(rel.parts.size() < 8, 4);
                String column = taken();
                check(is("=") || is("<") || is(">"), 1);
                String sign = taken();
                if (!isNumber()) {
                    seeColumn(m);
                }
                rel.parts.add(new String[] {column, sign, taken()});
            } while (is("and"));
        }

        void terms(Rel rel, int m) {
            do {
                if (!rel.parts.isEmpty()) {
                    take(",");
                }
                boolean number = isNumber();
                if (!number) {
                    seeColumn(m);
                }
                check(rel.parts.size() < 4, 4);
                String head = taken();
                if (!number && (is("+") || is("-"))) {
                    String sign = taken();
                    check(isNumber(), 1);
                    rel.parts.add(new String[] {head, sign, taken()});
                } else {
                    rel.parts.add(new String[] {head});
                }
            } while (is(","));
        }

        void join(Rel rel, int m) {
            rel.two = relation();
            take("on");
            do {
                if (!rel.parts.isEmpty()) {
                    take(",");
                }
                seeColumn(m);
                check(rel.parts.size() < 4, 4);
                String left = taken();
                take("=");
                seeColumn(rel.two.columns);
                rel.parts.add(new String[] {left, taken()});
            } while (is(","));
            Set<String> told = new HashSet<>();
            rel.parts.forEach(p -> told.add(p[1]));
            rel.columns = m + rel.two.columns - told.size();
            check(!is(";") || rel.columns <= 4, 5);
        }

        void group(Rel rel, int m) {
            take("by");
            do {
                if (!rel.parts.isEmpty()) {
                    take(",");
                }
                seeColumn(m);
                for (String[] p : rel.parts) {
                    check(!is(p[0]), 2);
                }
                check(rel.parts.size() < 3, 4);
                rel.parts.add(new String[] {taken()});
            } while (is(","));
            check(Arrays.asList("count", "sum", "least", "most").contains(token), 1);
            rel.fold = taken();
            if (!rel.fold.equals("count")) {
                seeColumn(m);
                rel.foldColumn = taken().charAt(1) - '0';
            }
            rel.columns = rel.parts.size() + 1;
        }

        void ring(Rel rel, int m) {
            take("with");
            rel.two = relation();
            take("on");
            seeColumn(m);
            String left = taken();
            take("=");
            seeColumn(rel.two.columns);
            rel.on = new String[] {left, taken()};
            take("keep");
            terms(rel, m + rel.two.columns);
            check(!is(";") || (m + rel.two.columns <= 4 && rel.parts.size() == m), 5);
        }
    }

    static final class State {
        final List<Bag> bags = new ArrayList<>();
        final List<Map<List<Integer>, Integer>> rounds = new ArrayList<>();
    }

    List<Rel> rels = new ArrayList<>();
    State now = new State();
    State ahead = new State();
    final Deque<State> past = new ArrayDeque<>();
    final TreeMap<List<Integer>, Integer> batch = new TreeMap<>(ORDER);
    int done;
    int refused;

    int plan(String text) {
        List<Rel> read;
        try {
            read = new Text(text).read();
        } catch (Fault f) {
            return -2 - (8 * f.place + f.kind);
        }
        rels = read;
        past.clear();
        batch.clear();
        done = 0;
        refused = 0;
        now = new State();
        for (int r = 0; r < rels.size(); r++) {
            now.bags.add(new Bag());
            now.rounds.add(new HashMap<>());
        }
        ahead = now;
        return rels.size();
    }

    int tables() {
        int n = 0;
        for (Rel r : rels) {
            n += r.kind.equals("table") ? 1 : 0;
        }
        return n;
    }

    int change(int table, int[] values, int n) {
        if (table < 0 || table >= tables() || n == 0 || Math.abs((long) n) > 9) {
            return -1;
        }
        List<Integer> key = new ArrayList<>();
        key.add(table);
        for (int c = 0; c < rels.get(table).columns; c++) {
            key.add(values[c]);
        }
        if (!batch.containsKey(key) && batch.size() == 40) {
            return -1;
        }
        int sum = batch.getOrDefault(key, 0) + n;
        if (sum == 0) {
            batch.remove(key);
        } else {
            batch.put(key, sum);
        }
        return batch.size();
    }

    State reckon() {
        State next = new State();
        for (Rel r : rels) {
            Bag bag = new Bag();
            if (r.kind.equals("table")) {
                now.bags.get(r.number).forEach(bag::more);
            }
            next.bags.add(bag);
            next.rounds.add(new HashMap<>());
        }
        batch.forEach((key, n) -> next.bags.get(key.get(0)).more(key.subList(1, key.size()), n));
        for (Bag bag : next.bags) {
            for (int n : bag.values()) {
                if (n < 0) {
                    throw new Refused(-2);
                }
            }
        }
        for (Rel r : rels) {
            if (!r.kind.equals("table")) {
                next.bags.set(r.number, view(r, next));
            }
            if (next.bags.get(r.number).size() > 120) {
                throw new Refused(-3);
            }
        }
        return next;
    }

    static int term(String[] term, List<Integer> tuple) {
        int value = term[0].startsWith("c") ? tuple.get(term[0].charAt(1) - '0') : Integer.parseInt(term[0]);
        if (term.length == 1) {
            return value;
        }
        return term[1].equals("+") ? value + Integer.parseInt(term[2]) : value - Integer.parseInt(term[2]);
    }

    static List<Integer> terms(List<String[]> parts, List<Integer> tuple) {
        List<Integer> answer = new ArrayList<>();
        for (String[] p : parts) {
            answer.add(term(p, tuple));
        }
        return answer;
    }

    static Bag view(Rel r, State next) {
        Bag one = next.bags.get(r.one.number);
        Bag two = r.two == null ? new Bag() : next.bags.get(r.two.number);
        Bag out = new Bag();
        switch (r.kind) {
            case "select":
                one.forEach((t, n) -> {
                    boolean all = true;
                    for (String[] p : r.parts) {
                        int order = Integer.compare(term(new String[] {p[0]}, t), term(new String[] {p[2]}, t));
                        all &= p[1].equals("=") ? order == 0 : p[1].equals("<") ? order < 0 : order > 0;
                    }
                    if (all) {
                        out.put(t, n);
                    }
                });
                return out;
            case "project":
                one.forEach((t, n) -> out.more(terms(r.parts, t), n));
                return out;
            case "join":
                return join(r, one, two);
            case "union":
                one.forEach(out::more);
                two.forEach(out::more);
                return out;
            case "minus":
                return one.less(two);
            case "distinct":
                return distinct(one);
            case "group":
                return group(r, one);
            default:
                return ring(r, distinct(one), distinct(two), next.rounds.get(r.number));
        }
    }

    static Bag distinct(Bag in) {
        Bag out = new Bag();
        in.forEach((t, n) -> {
            if (n > 0) {
                out.put(t, 1);
            }
        });
        return out;
    }

    static Bag join(Rel r, Bag one, Bag two) {
        Bag out = new Bag();
        int pairs = 0;
        for (List<Integer> a : one.keySet()) {
            for (List<Integer> b : two.keySet()) {
                boolean alike = true;
                List<Integer> rest = new ArrayList<>(b);
                for (String[] p : r.parts) {
                    alike &= term(new String[] {p[0]}, a) == term(new String[] {p[1]}, b);
                    rest.set(p[1].charAt(1) - '0', null);
                }
                if (alike) {
                    pairs++;
                    List<Integer> tuple = new ArrayList<>(a);
                    rest.removeIf(v -> v == null);
                    tuple.addAll(rest);
                    out.more(tuple, one.get(a) * two.get(b));
                }
            }
        }
        if (pairs > 1500) {
            throw new Refused(-3);
        }
        return out;
    }

    static Bag group(Rel r, Bag in) {
        TreeMap<List<Integer>, List<int[]>> groups = new TreeMap<>(ORDER);
        in.forEach((t, n) -> groups.computeIfAbsent(terms(r.parts, t), k -> new ArrayList<>())
                .add(new int[] {t.get(r.foldColumn), n}));
        Bag out = new Bag();
        groups.forEach((k, all) -> {
            List<Integer> tuple = new ArrayList<>(k);
            int sum = 0;
            List<Integer> above = new ArrayList<>();
            for (int[] vn : all) {
                sum += r.fold.equals("sum") ? vn[0] * vn[1] : vn[1];
                if (vn[1] > 0) {
                    above.add(vn[0]);
                }
            }
            above.sort(null);
            if (r.fold.equals("least")) {
                sum = above.isEmpty() ? 0 : above.get(0);
            } else if (r.fold.equals("most")) {
                sum = above.isEmpty() ? 0 : above.get(above.size() - 1);
            }
            tuple.add(sum);
            out.put(tuple, 1);
        });
        return out;
    }

    static Bag ring(Rel r, Bag one, Bag two, Map<List<Integer>, Integer> rounds) {
        Bag out = new Bag();
        Set<List<Integer>> latest = new LinkedHashSet<>(one.keySet());
        for (int round = 0; !latest.isEmpty(); round++) {
            if (round > 40) {
                throw new Refused(-4);
            }
            for (List<Integer> t : latest) {
                out.put(t, 1);
                rounds.put(t, round);
            }
            if (out.size() > 120) {
                throw new Refused(-3);
            }
            Set<List<Integer>> next = new LinkedHashSet<>();
            for (List<Integer> a : latest) {
                for (List<Integer> b : two.keySet()) {
                    if (term(new String[] {r.on[0]}, a) == term(new String[] {r.on[1]}, b)) {
                        List<Integer> both = new ArrayList<>(a);
                        both.addAll(b);
                        List<Integer> t = terms(r.parts, both);
                        if (!out.containsKey(t)) {
                            next.add(t);
                        }
                    }
                }
            }
            latest = next;
        }
        return out;
    }

    Bag moved(int r) {
        return now.bags.get(r).less(ahead.bags.get(r));
    }

    int came(int r) {
        int sum = 0;
        for (Rel need : rels.get(r).needs()) {
            sum += moved(need.number).size();
        }
        return sum;
    }

    int movedInViews() {
        int sum = 0;
        for (int r = tables(); r < rels.size(); r++) {
            sum += moved(r).size();
        }
        return sum;
    }

    int would(int relation) {
        try {
            return reckon().bags.get(relation).size();
        } catch (Refused e) {
            return e.code;
        }
    }

    int commit() {
        State next;
        try {
            next = reckon();
        } catch (Refused e) {
            batch.clear();
            refused++;
            return e.code;
        }
        batch.clear();
        done++;
        past.push(now);
        if (past.size() > 8) {
            past.removeLast();
        }
        ahead = now;
        now = next;
        return movedInViews();
    }

    int undo() {
        if (past.isEmpty()) {
            return -1;
        }
        ahead = now;
        now = past.pop();
        return past.size();
    }
}
