import java.util.ArrayList;
import java.util.Arrays;
import java.util.List;
import java.util.Map;
import java.util.Random;

/** Random plans, faults and batches: every answer against the plain model's. */
public final class ModelTest {
    private final Random random;
    private final BagTree x = new BagTree();
    private final Model model = new Model();
    private final StringBuilder log = new StringBuilder();
    private static final int[] FAULTS = new int[7];
    /** If plans are made whose tokens stand right, but not what they tell. */
    private boolean wild;

    private ModelTest(long seed) {
        random = new Random(seed);
    }

    public static void main(String[] args) {
        int runs = args.length > 0 ? Integer.parseInt(args[0]) : 400;
        int from = args.length > 1 ? Integer.parseInt(args[1]) : 1;
        int[] answers = new int[5];
        for (int seed = from; seed < from + runs; seed++) {
            new ModelTest(seed).run(seed, answers);
        }
        System.out.println("batches done " + answers[0] + ", refused -2: " + answers[2] + ", -3: " + answers[3]
                + ", -4: " + answers[4]);
        for (int k = 2; k <= 4; k++) {
            Checks.due("some batch is refused by " + -k, answers[k] > 0 ? 1 : 0, 1);
        }
        System.out.println("plans without a fault, with one of kinds 1 to 6: " + Arrays.toString(FAULTS));
        for (int k = 0; k <= 6; k++) {
            Checks.due("some plan of kind " + k, FAULTS[k] > 0 ? 1 : 0, 1);
        }
        Checks.finish("ModelTest");
    }

    private void due(String call, long got, long want) {
        Checks.due(call, got, want);
        if (got != want && Checks.wrongSoFar() <= 3) {
            System.out.println(log);
        }
    }

    private void run(int seed, int[] answers) {
        log.append("seed ").append(seed).append('\n');
        for (int k = 0; k < 6; k++) {
            plan(broken(makePlan()));
        }
        wild = true;
        for (int k = 0; k < 12; k++) {
            plan(join(makePlan(), random.nextInt(3)));
        }
        wild = false;
        plan(join(makePlan(), random.nextInt(3)));
        checkPlan();
        int span = 1 + random.nextInt(8);
        int big = random.nextInt(4);
        for (int k = 0; k < 24; k++) {
            batch(span, big, answers);
        }
        plan(broken(makePlan()));
        checkAll();
    }

    // ---- plans

    private String pick(String... of) {
        return of[random.nextInt(of.length)];
    }

    private boolean wildly(int oneOf) {
        return wild && random.nextInt(oneOf) == 0;
    }

    private String column(int columns) {
        return "c" + random.nextInt(wildly(30) ? 4 : columns);
    }

    private String number() {
        return random.nextInt(8) == 0 ? "" + random.nextInt(10000) : "" + random.nextInt(5);
    }

    /** The tokens of a plan that has no fault. */
    private List<String> makePlan() {
        List<String> plan = new ArrayList<>();
        List<String> names = new ArrayList<>();
        List<Integer> columns = new ArrayList<>();
        int tables = 1 + random.nextInt(3);
        int all = tables + random.nextInt(random.nextInt(4) == 0 ? 17 - tables : 8);
        if (wildly(6)) {
            all = 16 + random.nextInt(4);
        }
        for (int r = 0; r < all; r++) {
            String name = (char) ('a' + r) + pick("", "x", "yyyyyyy", "c");
            if (Model.WORDS.contains(name)) {
                name = "" + (char) ('a' + r);
            }
            if (r > 0 && wildly(60)) {
                name = names.get(random.nextInt(r));
            }
            if (r < tables || wildly(60)) {
                int m = 1 + random.nextInt(random.nextInt(3) == 0 ? 4 : 2);
                add(plan, "table", name, pick("", "0", "000") + m, ";");
                columns.add(m);
            } else {
                int from = plan.size();
                add(plan, "view", name, "=");
                int m = 0;
                for (int tries = 0; m == 0 && (tries == 0 || !wildly(4)) && tries < 50; tries++) {
                    while (plan.size() > from + 3) {
                        plan.remove(plan.size() - 1);
                    }
                    m = body(plan, names, columns);
                }
                add(plan, ";");
                columns.add(Math.max(1, m));
            }
            names.add(name);
        }
        return plan;
    }

    private static void add(List<String> plan, String... tokens) {
        for (String t : tokens) {
            plan.add(t);
        }
    }

    /** How many columns it has; 0: it can't be. */
    private int body(List<String> plan, List<String> names, List<Integer> columns) {
        int one = near(names.size());
        int two = near(names.size());
        int m = columns.get(one);
        int n = columns.get(two);
        switch (random.nextInt(9)) {
            case 0:
                add(plan, "select", names.get(one), "where");
                for (int k = random.nextInt(random.nextInt(4) == 0 ? wild ? 12 : 8 : 2); k >= 0; k--) {
                    add(plan, column(m), pick("=", "<", ">"), random.nextBoolean() ? column(m) : number(), "and");
                }
                plan.remove(plan.size() - 1);
                return m;
            case 1:
                add(plan, "project", names.get(one));
                return terms(plan, m, 1 + random.nextInt(wild ? 5 : 4));
            case 2:
            case 3:
                return join(plan, names, one, two, m, n);
            case 4:
                add(plan, pick("union", "minus"), names.get(one), names.get(two));
                return m == n ? m : 0;
            case 5:
                add(plan, "distinct", names.get(one));
                return m;
            case 6:
                return group(plan, names.get(one), m);
            default:
                add(plan, "ring", names.get(one), "with", names.get(two), "on", column(m), "=", column(n), "keep");
                terms(plan, Math.min(4, m + n), wildly(5) ? 1 + random.nextInt(5) : m);
                return m + n > 4 ? 0 : m;
        }
    }

    /** Later relations more often, so that views stand on views. */
    private int near(int all) {
        return Math.max(random.nextInt(all), random.nextInt(all));
    }

    private int terms(List<String> plan, int m, int many) {
        for (int k = 0; k < many; k++) {
            if (random.nextInt(8) == 0) {
                add(plan, number());
            } else {
                add(plan, column(m));
                if (random.nextInt(3) == 0) {
                    add(plan, pick("+", "-"), number());
                }
            }
            add(plan, ",");
        }
        plan.remove(plan.size() - 1);
        return many;
    }

    private int join(List<String> plan, List<String> names, int one, int two, int m, int n) {
        add(plan, "join", names.get(one), names.get(two), "on");
        List<String> told = new ArrayList<>();
        for (int k = random.nextInt(random.nextInt(3) == 0 ? wild ? 6 : 4 : 2); k >= 0; k--) {
            String right = column(n);
            add(plan, column(m), "=", right, ",");
            if (!told.contains(right)) {
                told.add(right);
            }
        }
        plan.remove(plan.size() - 1);
        int all = m + n - told.size();
        return all > 4 ? 0 : all;
    }

    private int group(List<String> plan, String name, int m) {
        add(plan, "group", name, "by");
        int by = 0;
        int start = random.nextInt(m);
        for (int k = 0; k < (wild ? 4 : Math.min(3, m)) && (k == 0 || random.nextBoolean()); k++) {
            add(plan, wildly(4) ? column(m) : "c" + (start + k) % m, ",");
            by++;
        }
        plan.remove(plan.size() - 1);
        String fold = pick("count", "sum", "least", "most");
        add(plan, fold);
        if (!fold.equals("count")) {
            add(plan, column(m));
        }
        return by + 1;
    }

    private static boolean isRun(String token) {
        return token.matches("[a-z0-9]+");
    }

    private String join(List<String> plan, int blanks) {
        StringBuilder text = new StringBuilder();
        String last = ";";
        for (String t : plan) {
            if ((isRun(last) && isRun(t)) || random.nextInt(3) < blanks) {
                text.append(random.nextInt(6) == 0 ? "\n" : " ");
            }
            text.append(t);
            last = t;
        }
        return text.toString();
    }

    /** A plan with a token or two that are others, or none at all. */
    private String broken(List<String> plan) {
        for (int k = 1 + random.nextInt(2); k > 0 && !plan.isEmpty(); k--) {
            int i = random.nextInt(plan.size());
            switch (random.nextInt(6)) {
                case 0:
                    plan.remove(i);
                    break;
                case 1:
                    plan.add(i, plan.get(i));
                    break;
                case 2:
                    plan.set(i, plan.get(random.nextInt(plan.size())));
                    break;
                case 3:
                    plan.set(i, pick("c0", "c1", "c2", "c3", "c4", "0", "5", "12345", "a", "b", "zz", "abcdefghi",
                            "table", "view", "count", "and", ";", ",", "+", "=", "A", "\t", "\u00e9", "*", "c00", "1a"));
                    break;
                case 4:
                    while (plan.size() > i) {
                        plan.remove(plan.size() - 1);
                    }
                    break;
                default:
                    if (plan.get(i).matches("c[0-3]")) {
                        plan.set(i, "c" + random.nextInt(4));
                    } else if (plan.get(i).equals(",")) {
                        plan.add(i, ",");
                        plan.add(i + 1, plan.get(Math.min(plan.size() - 1, i + 2)));
                    } else if (plan.get(i).equals("and")) {
                        add(plan.subList(i, i + 1), "c0", "=", "c0", "and");
                    }
                    break;
            }
        }
        return join(plan, random.nextInt(3));
    }

    private void plan(String text) {
        Checks.feed(x, text);
        if (text.length() > 900) {
            due("plan of " + text.length() + " bytes", x.plan(), -1);
            due("tape behind it", x.told(9), 0);
            return;
        }
        log.append(text).append('\n');
        int want = model.plan(text);
        due("plan of " + text, x.plan(), want);
        FAULTS[want < 0 ? (-2 - want) % 8 : 0]++;
    }

    private void checkPlan() {
        int all = model.rels.size();
        for (int r = 0; r < all; r++) {
            Model.Rel rel = model.rels.get(r);
            String name = "of(" + r + ", ";
            due(name + "0)", x.of(r, 0), Model.KINDS.indexOf(rel.kind));
            due(name + "1)", x.of(r, 1), rel.columns);
            due(name + "2)", x.of(r, 2), rel.one == null ? -1 : rel.one.number);
            due(name + "3)", x.of(r, 3), rel.two == null ? -1 : rel.two.number);
            due(name + "4)", x.of(r, 4), rel.bits());
            int on = 0;
            for (Model.Rel other : model.rels) {
                on |= (other.bits() >> r & 1) << other.number;
            }
            due(name + "5)", x.of(r, 5), on);
            due(name + "6)", x.of(r, 6), rel.far());
            due(name + "7)", x.of(r, 7), rel.name.charAt(0) - 'a' + 1);
            due(name + "8)", x.of(r, 8), rel.name.charAt(rel.name.length() - 1) - 'a' + 1);
        }
        due("told(0)", x.told(0), model.tables());
        due("told(1)", x.told(1), all - model.tables());
    }

    // ---- batches

    private int value(int span, int big) {
        if (big == 0 && random.nextInt(10) == 0) {
            return Integer.MAX_VALUE - random.nextInt(2);
        }
        if (big == 1 && random.nextInt(10) == 0) {
            return Integer.MIN_VALUE + random.nextInt(2);
        }
        if (big == 2) {
            return random.nextInt(200);
        }
        return random.nextInt(span);
    }

    private void batch(int span, int big, int[] answers) {
        int many = random.nextInt(random.nextInt(3) == 0 ? 60 : 6);
        for (int k = 0; k < many; k++) {
            int table = random.nextInt(40) == 0 ? random.nextInt(18) - 1 : random.nextInt(Math.max(1, model.tables()));
            int[] v = {value(span, big), value(span, big), value(span, big), value(span, big)};
            int n = random.nextInt(60) == 0 ? random.nextInt(30) - 15
                    : random.nextInt(3) == 0 ? random.nextInt(9) + 1 : 1;
            if (random.nextInt(4) == 0 && table >= 0 && table < model.tables() && x.size(table) > 0) {
                int row = random.nextInt(x.size(table));
                List<Integer> key = new ArrayList<>(List.of(table));
                for (int c = 0; c < x.of(table, 1); c++) {
                    v[c] = x.at(table, row, c);
                    key.add(v[c]);
                }
                if (!model.batch.containsKey(key)) {
                    n = Math.max(-9, -x.at(table, row, 4));
                }
            }
            String call = "change(" + table + ", " + v[0] + ", " + v[1] + ", " + v[2] + ", " + v[3] + ", " + n + ")";
            log.append(call).append('\n');
            due(call, x.change(table, v[0], v[1], v[2], v[3], n), model.change(table, v, n));
        }
        checkBatch();
        if (random.nextInt(3) == 0 && !model.rels.isEmpty()) {
            int r = random.nextInt(model.rels.size());
            due("would(" + r + ")", x.would(r), model.would(r));
        }
        int what = random.nextInt(12);
        if (what == 0) {
            due("cancel()", x.cancel(), model.batch.size());
            model.batch.clear();
        } else if (what <= 2) {
            for (int k = random.nextInt(random.nextInt(4) == 0 ? 10 : 2); k >= 0; k--) {
                log.append("undo()\n");
                due("undo()", x.undo(), model.undo());
            }
        } else {
            log.append("commit()\n");
            int want = model.commit();
            due("commit()", x.commit(), want);
            answers[want >= 0 ? 0 : -want]++;
        }
        checkAll();
    }

    private void checkBatch() {
        due("pending(NONE, 0)", x.pending(-1, 0), model.batch.size());
        int i = 0;
        for (Map.Entry<List<Integer>, Integer> e : model.batch.entrySet()) {
            for (int k = 0; k < e.getKey().size(); k++) {
                due("pending(" + i + ", " + k + ")", x.pending(i, k), e.getKey().get(k));
            }
            due("pending(" + i + ", 5)", x.pending(i, 5), e.getValue());
            i++;
        }
    }

    private void checkAll() {
        int views = 0;
        int came = 0;
        for (int r = 0; r < model.rels.size(); r++) {
            checkRelation(r);
            if (r >= model.tables()) {
                views += model.now.bags.get(r).size();
                came += model.came(r);
            }
        }
        int[] want = {model.tables(), model.rels.size() - model.tables(), model.done, model.refused,
            model.past.size(), model.batch.size(), views, model.movedInViews(), came, 0};
        for (int what = 0; what < want.length; what++) {
            due("told(" + what + ")", x.told(what), want[what]);
        }
    }

    private void checkRelation(int r) {
        Model.Bag bag = model.now.bags.get(r);
        Model.Bag moved = model.moved(r);
        due("size(" + r + ")", x.size(r), bag.size());
        due("moved(" + r + ")", x.moved(r), moved.size());
        due("came(" + r + ")", x.came(r), r < model.tables() ? -1 : model.came(r));
        if (x.size(r) != bag.size() || x.moved(r) != moved.size()) {
            return;
        }
        int i = 0;
        int total = 0;
        int rounds = 0;
        for (Map.Entry<List<Integer>, Integer> e : bag.entrySet()) {
            for (int c = 0; c < e.getKey().size(); c++) {
                due("at(" + r + ", " + i + ", " + c + ")", x.at(r, i, c), e.getKey().get(c));
            }
            due("at(" + r + ", " + i + ", 4)", x.at(r, i, 4), e.getValue());
            int[] v = padded(e.getKey());
            due("count", x.count(r, v[0], v[1], v[2], v[3]), e.getValue());
            Integer round = model.now.rounds.get(r).get(e.getKey());
            due("round", x.round(r, v[0], v[1], v[2], v[3]), round == null ? -1 : round);
            rounds = Math.max(rounds, round == null ? 0 : round);
            total += e.getValue();
            i++;
        }
        due("total(" + r + ")", x.total(r), total);
        due("rounds(" + r + ")", x.rounds(r), model.rels.get(r).kind.equals("ring") ? rounds : -1);
        due("differs(" + r + ")", random.nextInt(8) == 0 ? x.differs(r) : 0, 0);
        i = 0;
        for (Map.Entry<List<Integer>, Integer> e : moved.entrySet()) {
            for (int c = 0; c < e.getKey().size(); c++) {
                due("movedAt(" + r + ", " + i + ", " + c + ")", x.movedAt(r, i, c), e.getKey().get(c));
            }
            due("movedAt(" + r + ", " + i + ", 4)", x.movedAt(r, i, 4), e.getValue());
            i++;
        }
        checkColumns(r, bag);
    }

    private int[] padded(List<Integer> tuple) {
        int[] v = {random.nextInt(), random.nextInt(), random.nextInt(), random.nextInt()};
        for (int c = 0; c < tuple.size(); c++) {
            v[c] = tuple.get(c);
        }
        return v;
    }

    private void checkColumns(int r, Model.Bag bag) {
        for (int c = 0; c < model.rels.get(r).columns; c++) {
            int column = c;
            int[] values = bag.keySet().stream().mapToInt(t -> t.get(column)).sorted().distinct().toArray();
            due("column(" + r + ", " + c + ", 2)", x.column(r, c, 2), values.length);
            if (values.length > 0) {
                due("column(" + r + ", " + c + ", 0)", x.column(r, c, 0), values[0]);
                due("column(" + r + ", " + c + ", 1)", x.column(r, c, 1), values[values.length - 1]);
            } else {
                Checks.dueNoSuch("column of none", () -> x.column(r, column, 0));
            }
        }
    }
}
