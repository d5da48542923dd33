import java.util.Arrays;

/** Lots of goods and where they went: flows between lots, things and drains, corrections and recalls. */
public final class LotFlows {
    public static final int NONE = -1;
    public static final int FULL = -2;

    private static final int MAX_NODES = 48;
    private static final int MAX_FLOWS = 400;
    private static final long MAX_AMOUNT = 1_000_000L;
    private static final long MAX_DAY = 100_000L;
    private static final int PLACES = 1000;
    private static final long MAX_UNITS_IN_ROW = 2_147_483_647L;
    private static final int DRAIN = 0;
    private static final int LAST_KIND = 4;
    private static final int LOT = 5;

    private final Nodes nodes;
    private final Flows flows;
    private final RecallList list;
    private Stock stock;
    private Stock trial;
    private long lastTold;

    public LotFlows() {
        nodes = new Nodes();
        flows = new Flows();
        list = new RecallList();
        stock = new Stock(nodes);
        trial = new Stock(nodes);
        lastTold = 0;
    }

    public int lot(long amount, long day) {
        if (!isAmount(amount) || !isDay(day)) {
            return NONE;
        }
        int lot = nodes.addLot(amount, day);
        if (nodes.isLot(lot)) {
            stock.admit(lot);
        }
        return lot;
    }

    public int thing(int kind) {
        if (kind < DRAIN || kind > LAST_KIND) {
            return NONE;
        }
        return nodes.add(kind);
    }

    public void flow(int from, int to, long amount, long day)
            throws IndexOutOfBoundsException, IllegalArgumentException, IllegalStateException {
        if (!nodes.has(from) || !nodes.has(to)) {
            throw new IndexOutOfBoundsException("no such node");
        }
        if (flows.count >= MAX_FLOWS) {
            throw new IndexOutOfBoundsException("no room for one more flow");
        }
        if (nodes.isLot(to) || nodes.isDrain(from) || from == to) {
            throw new IllegalArgumentException("nothing can flow this way");
        }
        if (!isAmount(amount) || !isDay(day)) {
            throw new IllegalArgumentException("amount or day out of range");
        }
        if (nodes.held[from]) {
            throw new IllegalStateException("the node is held");
        }
        if (!tell(from, to, amount, day)) {
            throw new IllegalStateException("not all flows could happen");
        }
    }

    public long left(int node) {
        return nodes.has(node) ? stock.unitsIn(node) : NONE;
    }

    public long share(int node, int lot, int part) {
        if (!nodes.has(node) || !nodes.isLot(lot) || part < 0 || part > 1) {
            return NONE;
        }
        long above = stock.unitsOf(node, lot);
        long below = stock.unitsIn(node);
        if (below <= 0) {
            return part;
        }
        long divisor = greatestDivisor(above, below);
        if (divisor <= 0) {
            return NONE;
        }
        return (part == 0 ? above : below) / divisor;
    }

    public int back(int node, int k) {
        if (!nodes.has(node) || k < 0) {
            return NONE;
        }
        int before = 0;
        for (int lot = 0; lot < nodes.count; lot++) {
            if (stock.hasReached(lot, node)) {
                if (before == k) {
                    return lot;
                }
                before++;
            }
        }
        return NONE;
    }

    public int forward(int lot, int k) {
        if (!nodes.isLot(lot) || k < 0) {
            return NONE;
        }
        int before = 0;
        for (int node = 0; node < nodes.count; node++) {
            if (nodes.canTake(node) && stock.hasReached(lot, node)) {
                if (before == k) {
                    return node;
                }
                before++;
            }
        }
        return NONE;
    }

    public boolean place(int thing, int p, int customer) {
        if (!nodes.canTake(thing) || p < 0 || p >= PLACES || customer < 0 || customer >= PLACES) {
            return false;
        }
        nodes.spot[thing] = customer * PLACES + p;
        return true;
    }

    public int recall(int lot) {
        if (!nodes.isLot(lot)) {
            return NONE;
        }
        list.count = 0;
        for (int node = 0; node < nodes.count; node++) {
            if (nodes.canTake(node) && nodes.spot[node] != NONE && stock.hasReached(lot, node)) {
                list.enter(nodes.spot[node], stock.unitsOf(node, lot));
            }
        }
        return list.count;
    }

    public int recalled(int k, int what) {
        if (k < 0 || k >= list.count) {
            return NONE;
        }
        switch (what) {
            case 0:
                return list.spot[k] % PLACES;
            case 1:
                return list.spot[k] / PLACES;
            case 2:
                return (int) Math.min(list.units[k], MAX_UNITS_IN_ROW);
            case 3:
                return list.holders[k];
            default:
                return NONE;
        }
    }

    public boolean hold(int node, boolean on) {
        if (!nodes.has(node) || nodes.held[node] == on) {
            return false;
        }
        nodes.held[node] = on;
        return true;
    }

    public int correct(int flow, long amount, long told) {
        if (flow < 0 || flow >= flows.count || amount < 0 || amount > MAX_AMOUNT) {
            return NONE;
        }
        if (!isDay(told) || told < lastTold) {
            return NONE;
        }
        long former = flows.amount[flow];
        if (amount > former && nodes.held[flows.from[flow]]) {
            return NONE;
        }
        flows.amount[flow] = amount;
        if (!trial.replay(flows)) {
            flows.amount[flow] = former;
            return NONE;
        }
        lastTold = told;
        takeTrial();
        return stock.countOtherNodes(trial);
    }

    public int top(int thing, int lot, long amount) {
        if (!nodes.canTake(thing) || nodes.isDrain(thing) || !isAmount(amount)) {
            return NONE;
        }
        if (lot != NONE && !nodes.isLot(lot)) {
            return NONE;
        }
        long day = flows.greatestDay();
        int made = countTopFlows(lot, amount, day);
        if (made == NONE || flows.count + made > MAX_FLOWS) {
            return NONE;
        }
        tellTopFlows(thing, lot, amount, day);
        return made;
    }

    public boolean whole(int node) {
        return nodes.has(node) && stock.sumOfLots(node) == stock.unitsIn(node);
    }

    public long loss(int node) {
        return nodes.has(node) ? stock.drained[node] : NONE;
    }

    private static boolean isAmount(long amount) {
        return amount >= 1 && amount <= MAX_AMOUNT;
    }

    private static boolean isDay(long day) {
        return day >= 0 && day <= MAX_DAY;
    }

    private static long greatestDivisor(long a, long b) {
        long greater = a;
        long lesser = b;
        // Two steps at least halve a number, so the bound lies above what any two longs need.
        for (int step = 0; step < 200 && lesser != 0; step++) {
            long rest = greater % lesser;
            greater = lesser;
            lesser = rest;
        }
        return greater;
    }

    /** Tells a flow whose arguments have been looked at; false, and nothing changes, when not all could happen. */
    private boolean tell(int from, int to, long amount, long day) {
        if (nodes.isLot(from) && day < nodes.day[from]) {
            return false;
        }
        int turn = flows.turnFor(day);
        if (turn == flows.count) {
            // It happens behind all others, so that it changes nothing for them.
            if (!stock.move(from, to, amount)) {
                return false;
            }
            flows.insert(turn, from, to, amount, day);
            return true;
        }
        flows.insert(turn, from, to, amount, day);
        if (!trial.replay(flows)) {
            flows.removeNewest(turn);
            return false;
        }
        takeTrial();
        return true;
    }

    /** The former stock is kept as the next trial, so that no call makes rows of its own. */
    private void takeTrial() {
        Stock former = stock;
        stock = trial;
        trial = former;
    }

    /** What a lot can give to a thing that is topped on a day from one lot, or from all (NONE). */
    private long canGive(int giver, int asked, long day) {
        if (asked != NONE && asked != giver) {
            return 0;
        }
        return nodes.held[giver] || nodes.day[giver] > day ? 0 : stock.unitsIn(giver);
    }

    /** How many flows bring the amount together; NONE when the lots have not so much. */
    private int countTopFlows(int asked, long amount, long day) {
        long missing = amount;
        int made = 0;
        for (int i = 0; i < nodes.lotCount && missing > 0; i++) {
            long given = Math.min(missing, canGive(nodes.lotsByAge[i], asked, day));
            if (given > 0) {
                missing -= given;
                made++;
            }
        }
        return missing > 0 ? NONE : made;
    }

    private void tellTopFlows(int thing, int asked, long amount, long day) {
        long missing = amount;
        for (int i = 0; i < nodes.lotCount && missing > 0; i++) {
            int giver = nodes.lotsByAge[i];
            long given = Math.min(missing, canGive(giver, asked, day));
            if (given > 0 && tell(giver, thing, given, day)) {
                missing -= given;
            }
        }
    }

    /** The lots, things and drains, as they were told. */
    private static final class Nodes {
        int count;
        int lotCount;
        final int[] kind = new int[MAX_NODES];
        final long[] amount = new long[MAX_NODES];
        final long[] day = new long[MAX_NODES];
        final boolean[] held = new boolean[MAX_NODES];
        /** Customer and place in one number that sorts by customers, then places; NONE before one is told. */
        final int[] spot = new int[MAX_NODES];
        final int[] lotsByAge = new int[MAX_NODES];

        boolean has(int node) {
            return node >= 0 && node < count;
        }

        boolean isLot(int node) {
            return has(node) && kind[node] == LOT;
        }

        boolean isDrain(int node) {
            return has(node) && kind[node] == DRAIN;
        }

        boolean canTake(int node) {
            return has(node) && kind[node] != LOT;
        }

        /** The new node's number, or FULL. */
        int add(int kindOfNode) {
            if (count >= MAX_NODES) {
                return FULL;
            }
            kind[count] = kindOfNode;
            spot[count] = NONE;
            count++;
            return count - 1;
        }

        int addLot(long amountOfLot, long dayOfLot) {
            int lot = add(LOT);
            if (lot < 0) {
                return lot;
            }
            amount[lot] = amountOfLot;
            day[lot] = dayOfLot;
            int at = lotCount;
            while (at > 0 && day[lotsByAge[at - 1]] > dayOfLot) {
                lotsByAge[at] = lotsByAge[at - 1];
                at--;
            }
            lotsByAge[at] = lot;
            lotCount++;
            return lot;
        }
    }

    /** The flows, as they were told and corrected, and the order in which they happen. */
    private static final class Flows {
        int count;
        final int[] from = new int[MAX_FLOWS];
        final int[] to = new int[MAX_FLOWS];
        final long[] amount = new long[MAX_FLOWS];
        final long[] day = new long[MAX_FLOWS];
        final int[] order = new int[MAX_FLOWS];

        long greatestDay() {
            return count == 0 ? 0 : day[order[count - 1]];
        }

        /** A new flow has the greatest number, so it comes behind all others of its day. */
        int turnFor(long dayOfFlow) {
            int turn = count;
            while (turn > 0 && day[order[turn - 1]] > dayOfFlow) {
                turn--;
            }
            return turn;
        }

        void insert(int turn, int fromNode, int toNode, long amountOfFlow, long dayOfFlow) {
            if (count >= MAX_FLOWS || turn < 0 || turn > count) {
                return;
            }
            from[count] = fromNode;
            to[count] = toNode;
            amount[count] = amountOfFlow;
            day[count] = dayOfFlow;
            for (int i = count; i > turn; i--) {
                order[i] = order[i - 1];
            }
            order[turn] = count;
            count++;
        }

        void removeNewest(int turn) {
            if (count <= 0 || turn < 0) {
                return;
            }
            count--;
            for (int i = turn; i < count; i++) {
                order[i] = order[i + 1];
            }
        }
    }

    /** What is in each node, by lots, behind the flows that have been moved. */
    private static final class Stock {
        final Nodes nodes;
        /** By node and lot: of node n and lot l at n * MAX_NODES + l. */
        final long[] units = new long[MAX_NODES * MAX_NODES];
        final long[] came = new long[MAX_NODES];
        final long[] went = new long[MAX_NODES];
        final long[] drained = new long[MAX_NODES];
        /** Of each node a bit for each lot of which units came into it. */
        final long[] reached = new long[MAX_NODES];
        /** The lots in the node that is being parted, by numbers, and of each its portion and its rest. */
        final int[] present = new int[MAX_NODES];
        final long[] portion = new long[MAX_NODES];
        final long[] rest = new long[MAX_NODES];
        int presentCount;

        Stock(Nodes nodesToStock) {
            nodes = nodesToStock;
        }

        long unitsIn(int node) {
            return came[node] - went[node];
        }

        long unitsOf(int node, int lot) {
            return units[node * MAX_NODES + lot];
        }

        boolean hasReached(int lot, int node) {
            return (reached[node] & (1L << lot)) != 0;
        }

        long sumOfLots(int node) {
            long sum = 0;
            for (int lot = 0; lot < nodes.count; lot++) {
                sum += unitsOf(node, lot);
            }
            return sum;
        }

        /** A lot begins with its whole amount of itself. */
        void admit(int lot) {
            units[lot * MAX_NODES + lot] = nodes.amount[lot];
            came[lot] = nodes.amount[lot];
            reached[lot] = 1L << lot;
        }

        /** All flows from the start, in their order; false when one of them could not happen. */
        boolean replay(Flows flows) {
            clear();
            for (int i = 0; i < flows.count; i++) {
                int flow = flows.order[i];
                if (flows.amount[flow] > 0 && !move(flows.from[flow], flows.to[flow], flows.amount[flow])) {
                    return false;
                }
            }
            return true;
        }

        void clear() {
            Arrays.fill(units, 0L);
            Arrays.fill(came, 0L);
            Arrays.fill(went, 0L);
            Arrays.fill(drained, 0L);
            Arrays.fill(reached, 0L);
            for (int node = 0; node < nodes.count; node++) {
                if (nodes.isLot(node)) {
                    admit(node);
                }
            }
        }

        /** False, and nothing changes, when there is not so much in the node. */
        boolean move(int from, int to, long amount) {
            long there = unitsIn(from);
            if (there <= 0 || amount > there) {
                return false;
            }
            if (nodes.isLot(from)) {
                carry(from, to, from, amount);
            } else {
                part(from, there, amount);
                for (int i = 0; i < presentCount; i++) {
                    carry(from, to, present[i], portion[i]);
                }
            }
            went[from] += amount;
            came[to] += amount;
            if (nodes.isDrain(to)) {
                drained[from] += amount;
            }
            return true;
        }

        private void carry(int from, int to, int lot, long amount) {
            if (amount > 0) {
                units[from * MAX_NODES + lot] -= amount;
                units[to * MAX_NODES + lot] += amount;
                reached[to] |= 1L << lot;
            }
        }

        /** Fills the portions of the lots in an amount that is taken from a thing. */
        private void part(int from, long there, long amount) {
            presentCount = 0;
            if (there <= 0) {
                return;
            }
            long over = amount;
            for (int lot = 0; lot < nodes.count; lot++) {
                long product = unitsOf(from, lot) * amount;
                if (product > 0) {
                    present[presentCount] = lot;
                    portion[presentCount] = product / there;
                    rest[presentCount] = product % there;
                    over -= portion[presentCount];
                    presentCount++;
                }
            }
            for (int i = 0; i < presentCount && over > 0; i++) {
                int next = greatestRest();
                portion[next]++;
                rest[next] = 0;
                over--;
            }
        }

        /** Units left over are always fewer than the lots with a rest, so a rest that was served can stand as 0. */
        private int greatestRest() {
            int greatest = 0;
            for (int i = 1; i < presentCount; i++) {
                if (rest[i] > rest[greatest]) {
                    greatest = i;
                }
            }
            return greatest;
        }

        int countOtherNodes(Stock former) {
            int others = 0;
            for (int node = 0; node < nodes.count; node++) {
                if (differs(former, node)) {
                    others++;
                }
            }
            return others;
        }

        private boolean differs(Stock former, int node) {
            for (int lot = 0; lot < nodes.count; lot++) {
                if (unitsOf(node, lot) != former.unitsOf(node, lot)) {
                    return true;
                }
            }
            return false;
        }
    }

    /** The rows of the last recall, by customers, then places. */
    private static final class RecallList {
        int count;
        final int[] spot = new int[MAX_NODES];
        final long[] units = new long[MAX_NODES];
        final int[] holders = new int[MAX_NODES];

        void enter(int spotOfHolder, long unitsOfHolder) {
            int row = 0;
            while (row < count && spot[row] < spotOfHolder) {
                row++;
            }
            if (row < count && spot[row] == spotOfHolder) {
                units[row] += unitsOfHolder;
                holders[row]++;
            } else {
                insert(row, spotOfHolder, unitsOfHolder);
            }
        }

        private void insert(int row, int spotOfHolder, long unitsOfHolder) {
            if (count >= MAX_NODES) {
                return;
            }
            for (int i = count; i > row; i--) {
                spot[i] = spot[i - 1];
                units[i] = units[i - 1];
                holders[i] = holders[i - 1];
            }
            spot[row] = spotOfHolder;
            units[row] = unitsOfHolder;
            holders[row] = 1;
            count++;
        }
    }
}
