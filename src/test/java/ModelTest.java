import java.math.BigInteger;
import java.util.ArrayList;
import java.util.Comparator;
import java.util.List;
import java.util.Map;
import java.util.Random;
import java.util.TreeMap;
import java.util.TreeSet;

/** Runs of 512 calls, the same each time, beside a slow model that works everything out anew after each change. */
final class ModelTest {
    private static final int NONE = -1;
    private static final int RUNS = 1000;
    private static final int CALLS = 512;
    /** The last calls of a run are questions alone. */
    private static final int CHANGES = 400;

    private static final class Node {
        boolean lot;
        int kind;
        long amount;
        long day;
        boolean held;
        int[] spot;
    }

    private static final class Flow {
        int number;
        int from;
        int to;
        long amount;
        long day;
    }

    /** All that can be asked of the nodes behind all flows. */
    private static final class World {
        final List<TreeMap<Integer, Long>> in = new ArrayList<>();
        final List<TreeSet<Integer>> reached = new ArrayList<>();
        final List<Long> lost = new ArrayList<>();
        boolean possible = true;

        long total(int node) {
            long sum = 0;
            for (long units : in.get(node).values()) {
                sum += units;
            }
            return sum;
        }

        long of(int node, int lot) {
            return in.get(node).getOrDefault(lot, 0L);
        }
    }

    private static final class Model {
        final List<Node> nodes = new ArrayList<>();
        final List<Flow> flows = new ArrayList<>();
        final List<long[]> rows = new ArrayList<>();
        long lastTold;
        /** What stands behind all flows; null when something has changed since it was worked out. */
        private World known;

        /** To be called after each change of nodes or flows. */
        private void changed() {
            known = null;
        }

        boolean has(int node) {
            return node >= 0 && node < nodes.size();
        }

        boolean isLot(int node) {
            return has(node) && nodes.get(node).lot;
        }

        boolean isSink(int node) {
            return has(node) && !nodes.get(node).lot;
        }

        World world() {
            if (known == null) {
                known = workedOut();
            }
            return known;
        }

        private World workedOut() {
            World w = new World();
            for (int i = 0; i < nodes.size(); i++) {
                w.in.add(new TreeMap<>());
                w.reached.add(new TreeSet<>());
                w.lost.add(0L);
                if (nodes.get(i).lot) {
                    w.in.get(i).put(i, nodes.get(i).amount);
                    w.reached.get(i).add(i);
                }
            }
            List<Flow> sorted = new ArrayList<>(flows);
            sorted.sort(Comparator.<Flow>comparingLong(f -> f.day).thenComparingInt(f -> f.number));
            for (Flow f : sorted) {
                if (f.amount > 0) {
                    happen(w, f);
                }
                if (!w.possible) {
                    return w;
                }
            }
            return w;
        }

        private void happen(World w, Flow f) {
            Node from = nodes.get(f.from);
            if (w.total(f.from) < f.amount || from.lot && f.day < from.day) {
                w.possible = false;
                return;
            }
            for (Map.Entry<Integer, Long> e : parts(w.in.get(f.from), f.amount, w.total(f.from)).entrySet()) {
                if (e.getValue() > 0) {
                    w.in.get(f.from).merge(e.getKey(), -e.getValue(), Long::sum);
                    w.in.get(f.to).merge(e.getKey(), e.getValue(), Long::sum);
                    w.reached.get(f.to).add(e.getKey());
                }
            }
            if (nodes.get(f.to).kind == 0) {
                w.lost.set(f.from, w.lost.get(f.from) + f.amount);
            }
        }

        private static TreeMap<Integer, Long> parts(TreeMap<Integer, Long> in, long amount, long total) {
            TreeMap<Integer, Long> parts = new TreeMap<>();
            TreeMap<Integer, BigInteger> rests = new TreeMap<>();
            long given = 0;
            for (Map.Entry<Integer, Long> e : in.entrySet()) {
                BigInteger[] q = BigInteger.valueOf(e.getValue()).multiply(BigInteger.valueOf(amount))
                        .divideAndRemainder(BigInteger.valueOf(total));
                parts.put(e.getKey(), q[0].longValueExact());
                rests.put(e.getKey(), q[1]);
                given += q[0].longValueExact();
            }
            List<Integer> lots = new ArrayList<>(in.keySet());
            lots.sort(Comparator.<Integer, BigInteger>comparing(rests::get).reversed()
                    .thenComparing(Comparator.naturalOrder()));
            for (int i = 0; given < amount; i++, given++) {
                parts.merge(lots.get(i), 1L, Long::sum);
            }
            return parts;
        }

        int addNode(boolean lot, int kind, long amount, long day, boolean inRange) {
            if (!inRange) {
                return NONE;
            }
            if (nodes.size() == 48) {
                return -2;
            }
            Node n = new Node();
            n.lot = lot;
            n.kind = lot ? NONE : kind;
            n.amount = amount;
            n.day = day;
            nodes.add(n);
            changed();
            return nodes.size() - 1;
        }

        int flow(int from, int to, long amount, long day) {
            if (!has(from) || !has(to) || flows.size() == 400) {
                return Checks.INDEX;
            }
            if (isLot(to) || nodes.get(from).kind == 0 || from == to || amount < 1 || amount > 1_000_000
                    || day < 0 || day > 100_000) {
                return Checks.ARGUMENT;
            }
            if (nodes.get(from).held) {
                return Checks.STATE;
            }
            addFlow(from, to, amount, day);
            if (!world().possible) {
                removeFlows(flows.size() - 1);
                return Checks.STATE;
            }
            return Checks.TOLD;
        }

        private void addFlow(int from, int to, long amount, long day) {
            Flow f = new Flow();
            f.number = flows.size();
            f.from = from;
            f.to = to;
            f.amount = amount;
            f.day = day;
            flows.add(f);
            changed();
        }

        private void removeFlows(int former) {
            while (flows.size() > former) {
                flows.remove(flows.size() - 1);
            }
            changed();
        }

        int correct(int flow, long amount, long told) {
            if (flow < 0 || flow >= flows.size() || amount < 0 || amount > 1_000_000 || told < lastTold
                    || told > 100_000) {
                return NONE;
            }
            Flow f = flows.get(flow);
            if (nodes.get(f.from).held && amount > f.amount) {
                return NONE;
            }
            World before = world();
            long former = f.amount;
            f.amount = amount;
            changed();
            World after = world();
            if (!after.possible) {
                f.amount = former;
                changed();
                return NONE;
            }
            lastTold = told;
            int others = 0;
            for (int node = 0; node < nodes.size(); node++) {
                boolean other = false;
                for (int lot = 0; lot < nodes.size(); lot++) {
                    other |= before.of(node, lot) != after.of(node, lot);
                }
                others += other ? 1 : 0;
            }
            return others;
        }

        int top(int thing, int lot, long amount) {
            if (!isSink(thing) || nodes.get(thing).kind == 0 || amount < 1 || amount > 1_000_000
                    || lot != NONE && (!isLot(lot) || nodes.get(lot).held)) {
                return NONE;
            }
            long day = 0;
            for (Flow f : flows) {
                day = Math.max(day, f.day);
            }
            List<Integer> givers = new ArrayList<>();
            for (int i = 0; i < nodes.size(); i++) {
                if (nodes.get(i).lot && (lot == NONE ? !nodes.get(i).held : lot == i) && nodes.get(i).day <= day) {
                    givers.add(i);
                }
            }
            givers.sort(Comparator.<Integer>comparingLong(i -> nodes.get(i).day).thenComparingInt(i -> i));
            World w = world();
            int former = flows.size();
            long missing = amount;
            for (int giver : givers) {
                long given = Math.min(missing, w.total(giver));
                if (given > 0) {
                    addFlow(giver, thing, given, day);
                    missing -= given;
                }
            }
            int made = flows.size() - former;
            if (missing > 0 || flows.size() > 400 || !world().possible) {
                removeFlows(former);
                return NONE;
            }
            return made;
        }

        int recall(int lot) {
            if (!isLot(lot)) {
                return NONE;
            }
            World w = world();
            rows.clear();
            for (int customer = 0; customer < 1000; customer++) {
                TreeMap<Integer, long[]> byPlace = new TreeMap<>();
                for (int i = 0; i < nodes.size(); i++) {
                    int[] spot = nodes.get(i).spot;
                    if (spot != null && spot[1] == customer && w.reached.get(i).contains(lot)) {
                        long[] row = byPlace.computeIfAbsent(spot[0], p -> new long[] {spot[0], spot[1], 0, 0});
                        row[2] += w.of(i, lot);
                        row[3]++;
                    }
                }
                rows.addAll(byPlace.values());
            }
            return rows.size();
        }
    }

    private final Checks checks;
    private final Random random;
    private final LotFlows x = new LotFlows();
    private final Model model = new Model();
    private final String name;
    /** How great amounts and days are in this run. */
    private final int size;
    private final int days;
    private final int nodeLimit;

    private ModelTest(Checks checks, int seed) {
        this.checks = checks;
        random = new Random(seed);
        name = "run " + seed + ": ";
        size = new int[] {6, 40, 1000, 1_000_000}[random.nextInt(4)];
        days = new int[] {1, 5, 60, 100_001}[random.nextInt(4)];
        nodeLimit = new int[] {5, 9, 20, 50}[random.nextInt(4)];
    }

    public static void main(String[] args) {
        Checks checks = new Checks();
        for (int seed = 1; seed <= RUNS && !checks.anyWrong(); seed++) {
            new ModelTest(checks, seed).run();
        }
        checks.end();
    }

    private void run() {
        for (int call = 0; call < CALLS && !checks.anyWrong(); call++) {
            if (call >= CHANGES || random.nextInt(5) == 0) {
                ask();
            } else if (model.nodes.size() < nodeLimit && random.nextInt(call < 60 ? 2 : 12) == 0) {
                node();
            } else {
                change();
            }
        }
    }

    private int anyNode() {
        return random.nextInt(12) == 0 ? random.nextInt(60) - 5 : random.nextInt(model.nodes.size() + 1);
    }

    private int anyLot() {
        int node = anyNode();
        for (int i = 0; i < 40 && !model.isLot(node); i++) {
            node = anyNode();
        }
        return random.nextInt(20) == 0 ? anyNode() : node;
    }

    private int anySink() {
        int node = anyNode();
        for (int i = 0; i < 40 && !model.isSink(node); i++) {
            node = anyNode();
        }
        return random.nextInt(20) == 0 ? anyNode() : node;
    }

    private long anyAmount() {
        int way = random.nextInt(40);
        if (way == 0) {
            return new long[] {0, -1, 1_000_000, 1_000_001, Long.MAX_VALUE, Long.MIN_VALUE}[random.nextInt(6)];
        }
        return way < 8 ? 1 + random.nextInt(size) : 1 + random.nextInt(1 + size / 4);
    }

    private long anyDay() {
        if (random.nextInt(60) == 0) {
            return new long[] {-1, 100_001, 100_000, Long.MAX_VALUE, Long.MIN_VALUE}[random.nextInt(5)];
        }
        return random.nextInt(days);
    }

    private void node() {
        if (random.nextInt(2) == 0) {
            long amount = Math.min(1_000_000, anyAmount() * 3);
            long day = random.nextInt(2) == 0 ? 0 : anyDay();
            boolean inRange = amount >= 1 && amount <= 1_000_000 && day >= 0 && day <= 100_000;
            checks.due(name + "lot(" + amount + ", " + day + ")", x.lot(amount, day),
                    model.addNode(true, 0, amount, day, inRange));
        } else {
            int kind = random.nextInt(30) == 0 ? random.nextInt(11) - 3 : random.nextInt(5);
            checks.due(name + "thing(" + kind + ")", x.thing(kind),
                    model.addNode(false, kind, 0, 0, kind >= 0 && kind <= 4));
        }
    }

    private void change() {
        int way = random.nextInt(100);
        if (way < 55) {
            int from = random.nextInt(3) == 0 ? anySink() : anyLot();
            int to = anySink();
            long amount = anyAmount();
            long day = anyDay();
            checks.flow(x, from, to, amount, day, model.flow(from, to, amount, day));
        } else if (way < 75) {
            int flow = random.nextInt(20) == 0 ? random.nextInt(410) - 5 : random.nextInt(model.flows.size() + 1);
            long amount = random.nextInt(5) == 0 ? 0 : anyAmount();
            long told = Math.min(model.lastTold + random.nextInt(3) - (random.nextInt(10) == 0 ? 1 : 0), 100_002);
            checks.due(name + "correct(" + flow + ", " + amount + ", " + told + ")", x.correct(flow, amount, told),
                    model.correct(flow, amount, told));
        } else if (way < 85) {
            int thing = anySink();
            int lot = random.nextInt(2) == 0 ? NONE : anyLot();
            long amount = anyAmount();
            checks.due(name + "top(" + thing + ", " + lot + ", " + amount + ")", x.top(thing, lot, amount),
                    model.top(thing, lot, amount));
        } else if (way < 90) {
            hold(anyNode(), random.nextInt(3) == 0);
        } else if (way < 96) {
            place(anyNode(), random.nextInt(5) - (random.nextInt(9) == 0 ? 1 : 0), random.nextInt(3) + 998);
        } else {
            int lot = anyLot();
            checks.due(name + "recall(" + lot + ")", x.recall(lot), model.recall(lot));
        }
    }

    private void hold(int node, boolean on) {
        boolean isNew = model.has(node) && model.nodes.get(node).held != on;
        if (isNew) {
            model.nodes.get(node).held = on;
        }
        checks.due(name + "hold(" + node + ", " + on + ")", x.hold(node, on), isNew);
    }

    private void place(int node, int p, int customer) {
        boolean taken = model.isSink(node) && p >= 0 && customer <= 999;
        if (taken) {
            model.nodes.get(node).spot = new int[] {p, customer};
        }
        checks.due(name + "place(" + node + ", " + p + ", " + customer + ")", x.place(node, p, customer), taken);
    }

    private void ask() {
        int node = anyNode();
        int k = random.nextInt(1 + random.nextInt(50)) - 1;
        switch (random.nextInt(8)) {
            case 0 -> checks.due(name + "left(" + node + ")", x.left(node),
                    model.has(node) ? model.world().total(node) : NONE);
            case 1 -> checks.due(name + "loss(" + node + ")", x.loss(node),
                    model.has(node) ? model.world().lost.get(node) : NONE);
            case 2 -> checks.due(name + "whole(" + node + ")", x.whole(node), model.has(node));
            case 3 -> askBack(node, k);
            case 4 -> askForward(anyLot(), k);
            case 5 -> askRecalled(random.nextInt(model.rows.size() + 2) - 1, random.nextInt(6) - 1);
            default -> askShare(node, anyLot(), random.nextInt(10) == 0 ? random.nextInt(5) - 2 : random.nextInt(2));
        }
    }

    private void askBack(int node, int k) {
        List<Integer> lots = model.has(node) ? new ArrayList<>(model.world().reached.get(node)) : List.of();
        checks.due(name + "back(" + node + ", " + k + ")", x.back(node, k),
                k >= 0 && k < lots.size() ? lots.get(k) : NONE);
    }

    private void askForward(int lot, int k) {
        List<Integer> sinks = new ArrayList<>();
        for (int to = 0; to < model.nodes.size(); to++) {
            if (model.isSink(to) && model.world().reached.get(to).contains(lot)) {
                sinks.add(to);
            }
        }
        checks.due(name + "forward(" + lot + ", " + k + ")", x.forward(lot, k),
                k >= 0 && k < sinks.size() ? sinks.get(k) : NONE);
    }

    private void askRecalled(int k, int what) {
        boolean has = k >= 0 && k < model.rows.size() && what >= 0 && what < 4;
        checks.due(name + "recalled(" + k + ", " + what + ")", x.recalled(k, what),
                has ? model.rows.get(k)[what] : NONE);
    }

    private void askShare(int node, int lot, int part) {
        long want = NONE;
        if (model.has(node) && model.isLot(lot) && (part == 0 || part == 1)) {
            World w = model.world();
            BigInteger units = BigInteger.valueOf(w.of(node, lot));
            BigInteger total = BigInteger.valueOf(Math.max(1, w.total(node)));
            want = (part == 0 ? units : total).divide(units.gcd(total)).longValueExact();
        }
        checks.due(name + "share(" + node + ", " + lot + ", " + part + ")", x.share(node, lot, part), want);
    }
}
