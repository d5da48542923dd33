import java.util.ArrayList;
import java.util.List;
import java.util.function.ToLongFunction;

/**
 * Each sentence of the document that names a boundary case: the last value that is taken, the first that is
 * refused, and that a refused call changes nothing. Each object is used for at most 512 calls.
 */
final class EdgesTest {
    private static final int NONE = LotFlows.NONE;
    private static final int FULL = LotFlows.FULL;
    private static final long MOST = 1_000_000;
    private static final long LAST_DAY = 100_000;
    private static final int[] NO_NODE = {Integer.MIN_VALUE, -2, -1, 7, 8, 48, Integer.MAX_VALUE};
    private static final Checks checks = new Checks();

    public static void main(String[] args) {
        nodesAtMost48();
        thingBeforeItsLot();
        lotsAtMost48();
        flowsAtMost400();
        flowsHappenByDaysThenNumbers();
        partedByWholePartsAndRests();
        partedOneAfterAnother();
        partedAmong48Nodes();
        noMoreThanIsThere();
        notBeforeTheLotsDay();
        heldNodesGiveNothing();
        newObjectHasNoNodes();
        newObjectHasNoFlows();
        lotInRange();
        thingInRange();
        flowIndex();
        flowArgument();
        flowState();
        flowThrowsTheFirstThatIsNamed();
        flowRefusedChangesNothing();
        leftOfEachNode();
        shareReduced();
        shareRefused();
        backByNumbers();
        backOfALot();
        forwardOfALot();
        placeInRange();
        placeRefusedChangesNothing();
        recallRows();
        recallOrder();
        recallRefusedKeepsTheList();
        recalledInRange();
        recalledAsTheListWasMade();
        holdIsNew();
        correctFlowAndAmount();
        correctToldDay();
        correctHeld();
        correctMustHappen();
        correctCountsNodes();
        correctRefusedChangesNothing();
        topThingAndLot();
        topAmount();
        topDay();
        topOldestFirst();
        topHeld();
        topFlowLimit();
        topRefusedChangesNothing();
        wholeOfEachNode();
        lossOfEachNode();
        checks.end();
    }

    private static void due(String call, long got, long want) {
        checks.due(call, got, want);
    }

    private static void due(String call, boolean got, boolean want) {
        checks.due(call, got, want);
    }

    private static void told(LotFlows x, int from, int to, long amount, long day) {
        checks.flow(x, from, to, amount, day, Checks.TOLD);
    }

    private static void stateRefused(LotFlows x, int from, int to, long amount, long day) {
        checks.flow(x, from, to, amount, day, Checks.STATE);
    }

    // What a refused call must not change

    /**
     * Lots 0 (from day 0), 1 (from day 3, held) and 2 (from day 11, a day too young to top), tank 3, bottles 4
     * (held), pallet 5, drain 6; six flows, the last day 10; the last correction told on day 20; a list of lot 0.
     */
    private static LotFlows scene() {
        LotFlows x = new LotFlows();
        x.lot(100, 0);
        x.lot(50, 3);
        x.lot(30, 11);
        x.thing(2);
        x.thing(3);
        x.thing(4);
        x.thing(0);
        x.flow(0, 3, 40, 1);
        x.flow(1, 3, 20, 3);
        x.flow(3, 4, 30, 5);
        x.flow(4, 5, 10, 7);
        x.flow(3, 6, 5, 10);
        x.flow(4, 6, 2, 6);
        x.place(4, 5, 6);
        x.place(5, 7, 6);
        x.place(6, 1, 1);
        x.recall(0);
        x.correct(1, 18, 20);
        x.hold(1, true);
        x.hold(4, true);
        return x;
    }

    /** What an object answers to questions about all that is in it, and then to calls that show the rest of it. */
    private static List<String> everything(LotFlows x) {
        List<String> said = new ArrayList<>();
        rows(x, said);
        inNodes(x, said);
        for (int lot = 0; lot < 3; lot++) {
            said.add("recall(" + lot + ") " + x.recall(lot));
            rows(x, said);
        }
        said.add("correct before the last " + x.correct(1, 18, 19));
        said.add("correct on the day of the last " + x.correct(1, 18, 20));
        said.add("the last flow stands " + x.correct(5, 2, 20));
        said.add("no flow behind it " + x.correct(6, 2, 20));
        said.add("top of the lot that is too young " + x.top(3, 2, 1));
        said.add("top of all " + x.top(3, NONE, 60));
        said.add("the flow that it made " + x.correct(6, 60, 20));
        said.add("a flow before others " + Checks.telling(x, 3, 5, 7, 4));
        for (int node = 0; node < 8; node++) {
            said.add("hold(" + node + ", true) " + x.hold(node, true));
            said.add("hold(" + node + ", false) " + x.hold(node, false));
        }
        said.add("the next node " + x.thing(1));
        inNodes(x, said);
        return said;
    }

    private static void rows(LotFlows x, List<String> said) {
        for (int k = 0; k < 4; k++) {
            for (int what = 0; what < 4; what++) {
                said.add("recalled(" + k + ", " + what + ") " + x.recalled(k, what));
            }
        }
    }

    private static void inNodes(LotFlows x, List<String> said) {
        for (int node = 0; node < 8; node++) {
            said.add("left(" + node + ") " + x.left(node));
            said.add("loss(" + node + ") " + x.loss(node));
            said.add("whole(" + node + ") " + x.whole(node));
            for (int lot = 0; lot < 3; lot++) {
                said.add("share(" + node + ", " + lot + ", 0) " + x.share(node, lot, 0));
                said.add("share(" + node + ", " + lot + ", 1) " + x.share(node, lot, 1));
                said.add("back(" + node + ", " + lot + ") " + x.back(node, lot));
                said.add("forward(" + lot + ", " + node + ") " + x.forward(lot, node));
            }
        }
    }

    /** A refused call on the scene: its answer, and that all is as in a scene that was not asked. */
    private static void refused(String call, ToLongFunction<LotFlows> ask, long want) {
        LotFlows asked = scene();
        due(call, ask.applyAsLong(asked), want);
        List<String> got = everything(asked);
        List<String> due = everything(scene());
        for (int i = 0; i < due.size(); i++) {
            checks.due(call + " changes nothing: " + got.get(i) + " [" + due.get(i) + "]",
                    got.get(i).equals(due.get(i)), true);
        }
    }

    private static void refusedFlow(int from, int to, long amount, long day, int want) {
        refused("4: flow(" + from + ", " + to + ", " + amount + ", " + day + ") [0 told, 1 index, 2 argument, 3 state]",
                x -> Checks.telling(x, from, to, amount, day), want);
    }

    private static void refusedCorrect(int flow, long amount, long told) {
        refused("13: correct(" + flow + ", " + amount + ", " + told + ")", x -> x.correct(flow, amount, told), NONE);
    }

    private static void refusedTop(int thing, int lot, long amount) {
        refused("14: top(" + thing + ", " + lot + ", " + amount + ")", x -> x.top(thing, lot, amount), NONE);
    }

    // Terms

    private static void nodesAtMost48() {
        LotFlows x = new LotFlows();
        for (int i = 0; i < 47; i++) {
            due("numbered together", i % 2 == 0 ? x.lot(5, 0) : x.thing(i % 5), i);
        }
        due("the 48th", x.thing(0), 47);
        due("a 49th lot", x.lot(5, 0), FULL);
        due("a 49th thing", x.thing(1), FULL);
        due("a 49th drain", x.thing(0), FULL);
        due("node 47 stands", x.left(47), 0);
        due("no node 48", x.left(48), NONE);
        told(x, 46, 47, 5, 0);
        due("all of the last lot", x.left(47), 5);
        due("the last lot", x.back(47, 0), 46);
        due("the last drain", x.forward(46, 0), 47);
        checks.flow(x, 46, 48, 1, 0, Checks.INDEX);
        checks.flow(x, 48, 47, 1, 0, Checks.INDEX);
        told(x, 0, 1, 2, 0);
        for (int node = 0; node < 48; node++) {
            due("15: whole(" + node + ") of 48", x.whole(node), true);
        }
        due("15: whole(48)", x.whole(48), false);
    }

    /** Node 0 is as good as any: a thing there is found. */
    private static void thingBeforeItsLot() {
        LotFlows x = new LotFlows();
        x.thing(1);
        x.lot(5, 0);
        told(x, 1, 0, 5, 0);
        due("7: back(0, 0)", x.back(0, 0), 1);
        due("8: forward(1, 0)", x.forward(1, 0), 0);
        due("8: forward(1, 1)", x.forward(1, 1), NONE);
        due("9: place(0, 0, 0)", x.place(0, 0, 0), true);
        due("10: recall(1)", x.recall(1), 1);
        due("10: recall(0)", x.recall(0), NONE);
        due("11: recalled(0, 2)", x.recalled(0, 2), 5);
        due("12: hold(0, true)", x.hold(0, true), true);
        due("13: correct(0, 4, 0)", x.correct(0, 4, 0), 2);
        due("14: top(0, 1, 1)", x.top(0, 1, 1), 1);
        due("14: top(0, 0, 1)", x.top(0, 0, 1), NONE);
    }

    private static void lotsAtMost48() {
        LotFlows x = new LotFlows();
        due("a thing", x.thing(1), 0);
        for (int i = 1; i < 48; i++) {
            due("a lot", x.lot(MOST, 0), i);
        }
        due("a 49th", x.lot(MOST, 0), FULL);
        for (int i = 1; i < 48; i++) {
            told(x, i, 0, MOST, 0);
        }
        due("47 lots in a thing", x.left(0), 47 * MOST);
        due("the first", x.back(0, 0), 1);
        due("the last", x.back(0, 46), 47);
        due("no more", x.back(0, 47), NONE);
        due("share of the last, above", x.share(0, 47, 0), 1);
        due("share of the last, below", x.share(0, 47, 1), 47);
        due("whole", x.whole(0), true);
    }

    private static LotFlows withFlows(int count) {
        LotFlows x = new LotFlows();
        x.lot(MOST, 0);
        x.lot(MOST, 0);
        x.thing(1);
        x.thing(0);
        for (int i = 0; i < count; i++) {
            told(x, 0, 2, 2, 7);
        }
        return x;
    }

    private static void flowsAtMost400() {
        LotFlows x = withFlows(399);
        stateRefused(x, 2, 3, 799, 7);
        checks.flow(x, 2, 2, 1, 7, Checks.ARGUMENT);
        due("no flow 399 yet", x.correct(399, 1, 0), NONE);
        told(x, 2, 3, 798, 7);
        due("flow 399", x.correct(399, 797, 0), 2);
        checks.flow(x, 0, 2, 1, 7, Checks.INDEX);
        due("no flow 400", x.correct(400, 1, 0), NONE);
        checks.flow(x, 0, 2, 1, 100_000, Checks.INDEX);
        due("nothing changed", x.left(0), MOST - 798);
        due("nothing changed", x.left(2), 1);
        due("nothing changed", x.left(3), 797);
        due("one that did not happen", x.correct(399, 0, 0), 2);
        checks.flow(x, 0, 2, 1, 7, Checks.INDEX);
        due("is still told", x.left(2), 798);
    }

    private static LotFlows twoLotsAndATank() {
        LotFlows x = new LotFlows();
        x.lot(100, 0);
        x.lot(100, 0);
        x.thing(2);
        x.thing(4);
        return x;
    }

    private static void flowsHappenByDaysThenNumbers() {
        LotFlows before = twoLotsAndATank();
        told(before, 0, 2, 10, 0);
        told(before, 2, 3, 10, 5);
        told(before, 1, 2, 10, 4);
        due("told later, a day before: it is parted", before.share(3, 1, 1), 2);
        LotFlows same = twoLotsAndATank();
        told(same, 0, 2, 10, 0);
        told(same, 2, 3, 10, 5);
        told(same, 1, 2, 10, 5);
        due("told later, of one day: behind it", same.share(3, 1, 0), 0);
        due("told later, of one day: behind it", same.share(2, 1, 1), 1);
        LotFlows ends = twoLotsAndATank();
        told(ends, 1, 2, 10, LAST_DAY);
        told(ends, 0, 2, 10, 0);
        told(ends, 2, 3, 10, LAST_DAY - 1);
        due("between the first day and the last", ends.share(3, 0, 1), 1);
        due("between the first day and the last", ends.share(2, 1, 1), 1);
        stateRefused(ends, 2, 3, 1, LAST_DAY - 1);
        told(ends, 2, 3, 10, LAST_DAY);
    }

    /** A thing with these units of lots 0, 1, .. is parted by an amount: how much of each goes. */
    private static void parted(long[] in, long amount, long[] want) {
        LotFlows x = new LotFlows();
        int tank = in.length;
        int pallet = in.length + 1;
        for (long units : in) {
            x.lot(Math.max(1, units), 0);
        }
        x.thing(2);
        x.thing(4);
        for (int lot = in.length - 1; lot >= 0; lot--) {
            if (in[lot] > 0) {
                told(x, lot, tank, in[lot], 0);
            }
        }
        told(x, tank, pallet, amount, 0);
        int reached = 0;
        for (int lot = 0; lot < in.length; lot++) {
            long there = x.share(pallet, lot, 0) * (amount / x.share(pallet, lot, 1));
            due("parted by " + amount + ", lot " + lot, there, want[lot]);
            if (want[lot] > 0) {
                due("parted by " + amount + ", back " + reached, x.back(pallet, reached), lot);
                reached++;
            }
        }
        due("parted by " + amount + ", no more lots", x.back(pallet, reached), NONE);
        due("parted by " + amount + ", whole", x.whole(tank) && x.whole(pallet), true);
    }

    private static void partedByWholePartsAndRests() {
        parted(new long[] {1}, 1, new long[] {1});
        parted(new long[] {1, 1}, 1, new long[] {1, 0});
        parted(new long[] {1, 2}, 1, new long[] {0, 1});
        parted(new long[] {0, 1, 1}, 1, new long[] {0, 1, 0});
        parted(new long[] {5, 5, 5}, 1, new long[] {1, 0, 0});
        parted(new long[] {5, 5, 5}, 2, new long[] {1, 1, 0});
        parted(new long[] {5, 5, 5}, 3, new long[] {1, 1, 1});
        parted(new long[] {5, 5, 5}, 14, new long[] {5, 5, 4});
        parted(new long[] {5, 5, 5}, 15, new long[] {5, 5, 5});
        // The rest counts, not the part: 7 * 5 / 11 is 3 rest 2, 4 * 5 / 11 is 1 rest 9.
        parted(new long[] {7, 4}, 5, new long[] {3, 2});
        // Without a rest no unit is left over.
        parted(new long[] {2, 4, 6}, 6, new long[] {1, 2, 3});
        // 15 / 10 is 1 rest 5, 5 / 10 is 0 rest 5: the rests are equal, and two units go to the lesser numbers.
        parted(new long[] {3, 3, 3, 1}, 5, new long[] {2, 2, 1, 0});
        parted(new long[] {1, 3, 3, 3}, 5, new long[] {1, 2, 1, 1});
        parted(new long[] {MOST, MOST, MOST}, MOST, new long[] {333_334, 333_333, 333_333});
        parted(new long[] {MOST - 1, MOST}, MOST, new long[] {500_000, 500_000});
        parted(new long[] {1, MOST}, MOST, new long[] {1, 999_999});
        parted(new long[] {1, MOST}, 500_000, new long[] {0, 500_000});
        parted(new long[] {1, MOST}, 500_001, new long[] {1, 500_000});
    }

    /** A parting among many lots leaves nothing behind for the next one, among fewer. */
    private static void partedOneAfterAnother() {
        LotFlows x = new LotFlows();
        for (int lot = 0; lot < 4; lot++) {
            x.lot(100, 0);
        }
        x.thing(1);
        x.thing(1);
        x.thing(1);
        for (int lot = 0; lot < 4; lot++) {
            told(x, lot, 4, 10, 0);
        }
        told(x, 0, 5, 1, 0);
        told(x, 1, 5, 2, 0);
        told(x, 4, 6, 1, 1);
        told(x, 5, 6, 2, 1);
        // One of lot 0 out of the first thing; 2 / 3 and 4 / 3 out of the second: 0 rest 2, 1 rest 1.
        due("parted again: left(6)", x.left(6), 3);
        share(x, 6, 0, 2, 3);
        share(x, 6, 1, 1, 3);
        share(x, 6, 2, 0, 1);
        share(x, 5, 1, 1, 1);
        for (int node = 0; node < 7; node++) {
            due("parted again: whole(" + node + ")", x.whole(node), true);
        }
    }

    /** With all nodes told, each thing gives of its own and of no neighbour's, the last one too. */
    private static void partedAmong48Nodes() {
        LotFlows x = new LotFlows();
        x.lot(2000, 0);
        for (int i = 1; i < 48; i++) {
            x.thing(1);
        }
        for (int i = 1; i < 48; i++) {
            told(x, 0, i, i, 0);
        }
        for (int i = 47; i > 1; i--) {
            told(x, i, i - 1, 1, 1);
        }
        told(x, 1, 47, 2, 1);
        due("parted among 48: left(1)", x.left(1), 0);
        due("parted among 48: left(47)", x.left(47), 48);
        for (int i = 2; i < 47; i++) {
            due("parted among 48: left(" + i + ")", x.left(i), i);
            share(x, i, 0, 1, 1);
            due("parted among 48: whole(" + i + ")", x.whole(i), true);
        }
    }

    private static void noMoreThanIsThere() {
        LotFlows x = twoLotsAndATank();
        stateRefused(x, 0, 2, 101, 5);
        told(x, 0, 2, 100, 5);
        stateRefused(x, 0, 2, 1, 5);
        stateRefused(x, 0, 2, 1, 0);
        stateRefused(x, 2, 3, 100, 4);
        stateRefused(x, 2, 3, 101, 5);
        told(x, 2, 3, 60, 8);
        stateRefused(x, 2, 3, 41, 8);
        stateRefused(x, 2, 3, 41, 5);
        told(x, 2, 3, 40, 5);
        stateRefused(x, 2, 3, 1, LAST_DAY);
        stateRefused(x, 2, 3, 1, 5);
        due("all is on the pallet", x.left(3), 100);
        told(x, 3, 2, 40, 5);
        stateRefused(x, 3, 2, 1, 7);
        told(x, 3, 2, 60, 8);
        due("all is in the tank again", x.left(2), 100);
    }

    private static void notBeforeTheLotsDay() {
        LotFlows x = new LotFlows();
        x.lot(5, 0);
        x.lot(5, LAST_DAY);
        x.lot(5, 9);
        x.thing(1);
        told(x, 0, 3, 1, 0);
        stateRefused(x, 1, 3, 1, LAST_DAY - 1);
        told(x, 1, 3, 1, LAST_DAY);
        stateRefused(x, 2, 3, 1, 8);
        told(x, 2, 3, 1, 9);
        told(x, 2, 3, 1, 10);
        due("before its day it is left", x.left(1), 4);
    }

    private static void heldNodesGiveNothing() {
        LotFlows x = twoLotsAndATank();
        told(x, 0, 2, 10, 1);
        told(x, 2, 3, 5, 2);
        x.hold(0, true);
        x.hold(2, true);
        stateRefused(x, 0, 2, 1, 1);
        stateRefused(x, 2, 3, 1, 2);
        due("topped of a held lot", x.top(2, 0, 1), NONE);
        due("corrected to more", x.correct(0, 11, 0), NONE);
        due("corrected to more", x.correct(1, 6, 0), NONE);
        due("into a held thing", x.top(2, 1, 1), 1);
        told(x, 1, 2, 1, 2);
        x.hold(0, false);
        x.hold(2, false);
        told(x, 0, 2, 1, 1);
        told(x, 2, 3, 1, 2);
        due("topped", x.top(2, 0, 1), 1);
        due("corrected to more", x.correct(0, 11, 0), 2);
        due("corrected to more", x.correct(1, 6, 0), 2);
    }

    // Promise 1

    private static void newObjectHasNoNodes() {
        LotFlows x = new LotFlows();
        for (int node : new int[] {NONE, 0, 1, 47}) {
            due("1: left", x.left(node), NONE);
            due("1: share", x.share(node, node, 0), NONE);
            due("1: back", x.back(node, 0), NONE);
            due("1: forward", x.forward(node, 0), NONE);
            due("1: place", x.place(node, 0, 0), false);
            due("1: recall", x.recall(node), NONE);
            due("1: recalled", x.recalled(node, 0), NONE);
            due("1: hold", x.hold(node, true), false);
            due("1: hold off", x.hold(node, false), false);
            due("1: top", x.top(node, NONE, 1), NONE);
            due("1: whole", x.whole(node), false);
            due("1: loss", x.loss(node), NONE);
            checks.flow(x, node, node, 1, 0, Checks.INDEX);
        }
        due("1: the first node is 0", x.lot(1, 0), 0);
        due("1: it is not held", x.hold(0, false), false);
    }

    private static void newObjectHasNoFlows() {
        LotFlows x = new LotFlows();
        x.lot(10, 0);
        x.thing(1);
        due("1: no flow 0", x.correct(0, 0, 0), NONE);
        due("1: nothing came", x.left(1), 0);
        due("1: nothing came", x.back(1, 0), NONE);
        due("1: nothing came", x.forward(0, 0), NONE);
        due("1: nothing went", x.loss(0), 0);
        told(x, 0, 1, 1, 0);
        due("1: a correction on day 0", x.correct(0, 2, 0), 2);
    }

    // Promises 2 and 3

    private static void lotInRange() {
        LotFlows x = new LotFlows();
        due("2: the least amount", x.lot(1, 5), 0);
        due("2: the greatest amount", x.lot(MOST, 5), 1);
        due("2: the first day", x.lot(5, 0), 2);
        due("2: the last day", x.lot(5, LAST_DAY), 3);
        for (long amount : new long[] {0, -1, MOST + 1, Long.MIN_VALUE, Long.MAX_VALUE, (1L << 32) + 5}) {
            due("2: lot(" + amount + ", 5)", x.lot(amount, 5), NONE);
        }
        for (long day : new long[] {-1, LAST_DAY + 1, Long.MIN_VALUE, Long.MAX_VALUE, (1L << 32) + 5}) {
            due("2: lot(5, " + day + ")", x.lot(5, day), NONE);
        }
        due("2: left of the least", x.left(0), 1);
        due("2: left of the greatest", x.left(1), MOST);
        due("2: refused ones have no number", x.left(4), NONE);
        due("2: nor take one", x.lot(5, 5), 4);
        refused("2: lot(0, 5)", y -> y.lot(0, 5), NONE);
        refused("2: lot(1000001, 5)", y -> y.lot(MOST + 1, 5), NONE);
        refused("2: lot(5, -1)", y -> y.lot(5, -1), NONE);
        refused("2: lot(5, 100001)", y -> y.lot(5, LAST_DAY + 1), NONE);
    }

    private static void thingInRange() {
        LotFlows x = new LotFlows();
        for (int kind = 0; kind <= 4; kind++) {
            due("3: thing(" + kind + ")", x.thing(kind), kind);
        }
        for (int kind : new int[] {-1, 5, Integer.MIN_VALUE, Integer.MAX_VALUE}) {
            due("3: thing(" + kind + ")", x.thing(kind), NONE);
        }
        due("3: refused ones take no number", x.lot(10, 0), 5);
        checks.flow(x, 0, 1, 1, 0, Checks.ARGUMENT);
        told(x, 5, 1, 5, 0);
        told(x, 5, 4, 5, 0);
        told(x, 1, 4, 1, 0);
        told(x, 4, 1, 1, 0);
        refused("3: thing(-1)", y -> y.thing(-1), NONE);
        refused("3: thing(5)", y -> y.thing(5), NONE);
    }

    // Promise 4

    private static void flowIndex() {
        LotFlows x = new LotFlows();
        x.lot(10, 0);
        checks.flow(x, 0, 1, 1, 0, Checks.INDEX);
        checks.flow(x, 1, 0, 1, 0, Checks.INDEX);
        x.thing(1);
        told(x, 0, 1, 1, 0);
        checks.flow(x, 0, 2, 1, 0, Checks.INDEX);
        checks.flow(x, 2, 1, 1, 0, Checks.INDEX);
        checks.flow(x, -1, 1, 1, 0, Checks.INDEX);
        checks.flow(x, 0, -1, 1, 0, Checks.INDEX);
        checks.flow(x, NONE, NONE, 1, 0, Checks.INDEX);
        checks.flow(x, Integer.MIN_VALUE, Integer.MAX_VALUE, 1, 0, Checks.INDEX);
    }

    private static void flowArgument() {
        LotFlows x = new LotFlows();
        x.lot(MOST, 0);
        x.lot(MOST, 0);
        x.thing(1);
        x.thing(0);
        checks.flow(x, 0, 1, 1, 0, Checks.ARGUMENT);
        checks.flow(x, 2, 1, 1, 0, Checks.ARGUMENT);
        checks.flow(x, 3, 1, 1, 0, Checks.ARGUMENT);
        checks.flow(x, 3, 2, 1, 0, Checks.ARGUMENT);
        for (int node = 0; node < 4; node++) {
            checks.flow(x, node, node, 1, 0, Checks.ARGUMENT);
        }
        for (long amount : new long[] {0, -1, MOST + 1, Long.MIN_VALUE, Long.MAX_VALUE, (1L << 32) + 1}) {
            checks.flow(x, 0, 2, amount, 5, Checks.ARGUMENT);
        }
        for (long day : new long[] {-1, LAST_DAY + 1, Long.MIN_VALUE, Long.MAX_VALUE, (1L << 32) + 1}) {
            checks.flow(x, 0, 2, 1, day, Checks.ARGUMENT);
        }
        told(x, 0, 2, 1, 0);
        told(x, 0, 3, 1, LAST_DAY);
        told(x, 1, 2, MOST, 5);
        told(x, 2, 3, MOST, 5);
        due("4: what is left", x.left(2), 1);
        due("4: what is drained", x.left(3), MOST + 1);
    }

    private static void flowState() {
        LotFlows x = scene();
        stateRefused(x, 1, 3, 1, 10);
        x.hold(1, false);
        told(x, 1, 3, 1, 10);
        stateRefused(x, 4, 5, 1, 10);
        x.hold(4, false);
        told(x, 4, 5, 1, 10);
        stateRefused(x, 0, 3, 61, 10);
        told(x, 0, 3, 60, 10);
        stateRefused(x, 2, 3, 1, 10);
        told(x, 2, 3, 1, 11);
    }

    private static void flowThrowsTheFirstThatIsNamed() {
        LotFlows x = scene();
        checks.flow(x, 7, 0, 0, -1, Checks.INDEX);
        checks.flow(x, 1, 7, 0, -1, Checks.INDEX);
        checks.flow(x, 1, 0, 1, 10, Checks.ARGUMENT);
        checks.flow(x, 1, 3, 0, 10, Checks.ARGUMENT);
        checks.flow(x, 1, 3, 1, -1, Checks.ARGUMENT);
        checks.flow(x, 0, 3, MOST + 1, 10, Checks.ARGUMENT);
        stateRefused(x, 0, 3, MOST, 10);
        x.hold(6, true);
        checks.flow(x, 6, 3, 1, 10, Checks.ARGUMENT);
        LotFlows full = withFlows(400);
        checks.flow(full, 2, 0, 0, -1, Checks.INDEX);
        full.hold(0, true);
        checks.flow(full, 0, 2, 1, 7, Checks.INDEX);
    }

    private static void flowRefusedChangesNothing() {
        refusedFlow(7, 3, 1, 10, Checks.INDEX);
        refusedFlow(0, 7, 1, 10, Checks.INDEX);
        refusedFlow(-1, 3, 1, 10, Checks.INDEX);
        refusedFlow(0, 2, 1, 11, Checks.ARGUMENT);
        refusedFlow(6, 3, 1, 11, Checks.ARGUMENT);
        refusedFlow(3, 3, 1, 11, Checks.ARGUMENT);
        refusedFlow(0, 3, 0, 11, Checks.ARGUMENT);
        refusedFlow(0, 3, MOST + 1, 11, Checks.ARGUMENT);
        refusedFlow(0, 3, 1, -1, Checks.ARGUMENT);
        refusedFlow(0, 3, 1, LAST_DAY + 1, Checks.ARGUMENT);
        refusedFlow(1, 3, 1, 11, Checks.STATE);
        refusedFlow(1, 3, 1, 4, Checks.STATE);
        refusedFlow(0, 3, 61, 11, Checks.STATE);
        refusedFlow(0, 3, 61, 2, Checks.STATE);
        refusedFlow(3, 5, 24, 11, Checks.STATE);
        refusedFlow(3, 5, 24, 4, Checks.STATE);
        refusedFlow(3, 5, 1, 0, Checks.STATE);
        refusedFlow(2, 3, 1, 10, Checks.STATE);
    }

    // Promises 5 to 8

    private static void leftOfEachNode() {
        LotFlows x = scene();
        long[] want = {60, 32, 30, 23, 18, 10, 7};
        for (int node = 0; node < want.length; node++) {
            due("5: left(" + node + ")", x.left(node), want[node]);
        }
        for (int node : NO_NODE) {
            due("5: left(" + node + ")", x.left(node), NONE);
        }
        told(x, 0, 6, 60, 10);
        told(x, 3, 6, 23, 10);
        due("5: an emptied lot", x.left(0), 0);
        due("5: an emptied thing", x.left(3), 0);
        due("5: of a drain, all that came", x.left(6), 90);
    }

    private static void share(LotFlows x, int node, int lot, long above, long below) {
        due("6: share(" + node + ", " + lot + ", 0)", x.share(node, lot, 0), above);
        due("6: share(" + node + ", " + lot + ", 1)", x.share(node, lot, 1), below);
    }

    private static void shareReduced() {
        LotFlows x = new LotFlows();
        x.lot(MOST, 0);
        x.lot(MOST, 0);
        x.thing(1);
        x.thing(0);
        share(x, 2, 0, 0, 1);
        share(x, 3, 0, 0, 1);
        share(x, 0, 0, 1, 1);
        share(x, 0, 1, 0, 1);
        told(x, 0, 2, 1, 0);
        share(x, 2, 0, 1, 1);
        share(x, 2, 1, 0, 1);
        told(x, 1, 2, MOST, 0);
        share(x, 2, 0, 1, MOST + 1);
        share(x, 2, 1, MOST, MOST + 1);
        share(x, 1, 1, 0, 1);
        told(x, 0, 2, 249_999, 0);
        share(x, 2, 0, 1, 5);
        share(x, 2, 1, 4, 5);
        told(x, 2, 3, MOST, 0);
        told(x, 2, 3, 250_000, 0);
        share(x, 2, 0, 0, 1);
        share(x, 2, 1, 0, 1);
        share(x, 3, 0, 1, 5);
        share(x, 3, 1, 4, 5);
    }

    private static void shareRefused() {
        LotFlows x = scene();
        share(x, 6, 2, 0, 1);
        share(x, 0, 2, 0, 1);
        for (int part = 0; part < 2; part++) {
            for (int node : NO_NODE) {
                due("6: no node " + node, x.share(node, 0, part), NONE);
                due("6: no lot " + node, x.share(0, node, part), NONE);
            }
            for (int node = 3; node < 7; node++) {
                due("6: no lot, but a node " + node, x.share(node, node, part), NONE);
            }
        }
        for (int part : new int[] {-1, 2, Integer.MIN_VALUE, Integer.MAX_VALUE}) {
            due("6: part " + part, x.share(3, 0, part), NONE);
            due("6: part " + part + " of nothing", x.share(3, 2, part), NONE);
        }
    }

    private static void backByNumbers() {
        LotFlows x = scene();
        for (int node = 3; node < 7; node++) {
            due("7: back(" + node + ", -1)", x.back(node, -1), NONE);
            due("7: back(" + node + ", 0)", x.back(node, 0), 0);
            due("7: back(" + node + ", 1)", x.back(node, 1), 1);
            due("7: back(" + node + ", 2)", x.back(node, 2), NONE);
            due("7: back(" + node + ", max)", x.back(node, Integer.MAX_VALUE), NONE);
            due("7: back(" + node + ", min)", x.back(node, Integer.MIN_VALUE), NONE);
        }
        for (int node : NO_NODE) {
            due("7: back(" + node + ", 0)", x.back(node, 0), NONE);
        }
        LotFlows y = twoLotsAndATank();
        due("7: nothing came", y.back(2, 0), NONE);
        told(y, 1, 2, 2, 0);
        told(y, 0, 2, 1, 0);
        told(y, 2, 3, 1, 0);
        due("7: one unit, of one lot", y.back(3, 0), 1);
        due("7: none of the other", y.back(3, 1), NONE);
        told(y, 2, 3, 2, 0);
        due("7: by numbers, not by the order in which they came", y.back(3, 0), 0);
        due("7: by numbers", y.back(3, 1), 1);
        due("7: all went on, but it came", y.back(2, 1), 1);
        due("7: it did not happen", y.correct(2, 0, 0), 2);
        due("7: of both still", y.back(3, 1), 1);
        due("7: it did not happen", y.correct(3, 0, 0), 2);
        due("7: nothing came", y.back(3, 0), NONE);
    }

    private static void backOfALot() {
        LotFlows x = scene();
        for (int lot = 0; lot < 3; lot++) {
            due("7: a lot: itself", x.back(lot, 0), lot);
            due("7: a lot: no other", x.back(lot, 1), NONE);
            due("7: a lot: before the first", x.back(lot, -1), NONE);
        }
        told(x, 0, 3, 60, 10);
        due("7: an emptied lot: itself", x.back(0, 0), 0);
    }

    private static void forwardOfALot() {
        LotFlows x = scene();
        for (int lot = 0; lot < 2; lot++) {
            due("8: before the first", x.forward(lot, -1), NONE);
            for (int k = 0; k < 4; k++) {
                due("8: forward(" + lot + ", " + k + ")", x.forward(lot, k), 3 + k);
            }
            due("8: forward(" + lot + ", 4)", x.forward(lot, 4), NONE);
            due("8: forward(" + lot + ", max)", x.forward(lot, Integer.MAX_VALUE), NONE);
            due("8: forward(" + lot + ", min)", x.forward(lot, Integer.MIN_VALUE), NONE);
        }
        due("8: it went nowhere", x.forward(2, 0), NONE);
        for (int node = 3; node < 7; node++) {
            due("8: no lot", x.forward(node, 0), NONE);
        }
        for (int node : NO_NODE) {
            due("8: no node", x.forward(node, 0), NONE);
        }
        LotFlows y = new LotFlows();
        y.lot(100, 0);
        for (int i = 1; i < 48; i++) {
            y.thing(i % 5);
        }
        for (int i = 47; i > 0; i--) {
            told(y, 0, i, 1, 0);
        }
        due("8: the first of 47", y.forward(0, 0), 1);
        due("8: the last of 47", y.forward(0, 46), 47);
        due("8: no more", y.forward(0, 47), NONE);
        due("8: it did not happen", y.correct(0, 0, 0), 2);
        due("8: the last of 46", y.forward(0, 45), 46);
        due("8: no more", y.forward(0, 46), NONE);
    }

    // Promises 9 to 11

    private static void placeInRange() {
        LotFlows x = scene();
        int[][] taken = {{0, 0}, {999, 0}, {0, 999}, {999, 999}, {0, 1}, {1, 0}};
        for (int[] at : taken) {
            due("9: place(3, " + at[0] + ", " + at[1] + ")", x.place(3, at[0], at[1]), true);
            x.place(4, at[0], at[1]);
            x.place(5, at[0], at[1]);
            due("9: place(6, " + at[0] + ", " + at[1] + ")", x.place(6, at[0], at[1]), true);
            due("9: one row", x.recall(0), 1);
            due("9: its place", x.recalled(0, 0), at[0]);
            due("9: its customer", x.recalled(0, 1), at[1]);
        }
        for (int wrong : new int[] {-1, 1000, Integer.MIN_VALUE, Integer.MAX_VALUE}) {
            due("9: place " + wrong, x.place(3, wrong, 5), false);
            due("9: customer " + wrong, x.place(3, 5, wrong), false);
        }
        for (int lot = 0; lot < 3; lot++) {
            due("9: a lot", x.place(lot, 5, 5), false);
        }
        for (int node : NO_NODE) {
            due("9: no node " + node, x.place(node, 5, 5), false);
        }
    }

    private static void placeRefusedChangesNothing() {
        int[][] wrong = {{4, -1, 6}, {4, 1000, 6}, {4, 5, -1}, {4, 5, 1000}, {0, 5, 6}, {7, 5, 6}, {-1, 5, 6},
                {3, -1, 0}, {3, 1000, 0}, {3, 0, -1}, {3, 0, 1000}};
        for (int[] w : wrong) {
            refused("9: place(" + w[0] + ", " + w[1] + ", " + w[2] + ")",
                    x -> x.place(w[0], w[1], w[2]) ? 1 : 0, 0);
        }
    }

    private static void recallRows() {
        LotFlows x = new LotFlows();
        x.lot(100, 0);
        x.lot(100, 0);
        for (int i = 2; i < 48; i++) {
            x.thing(i % 5);
            told(x, 0, i, 1, 0);
        }
        due("10: told no place, no row", x.recall(0), 0);
        for (int i = 2; i < 48; i++) {
            x.place(i, 999 - i, 5);
        }
        due("10: 46 things and drains, 46 rows", x.recall(0), 46);
        due("10: the first", x.recalled(0, 0), 999 - 47);
        due("10: the last", x.recalled(45, 0), 999 - 2);
        due("10: no more", x.recalled(46, 0), NONE);
        due("10: no units of the other came", x.recall(1), 0);
        due("10: its list is empty", x.recalled(0, 0), NONE);
        for (int i = 2; i < 48; i++) {
            x.place(i, 8, 9);
        }
        due("10: each pair once", x.recall(0), 1);
        due("10: all units", x.recalled(0, 2), 46);
        due("10: all things and drains", x.recalled(0, 3), 46);
    }

    private static void recallOrder() {
        LotFlows x = new LotFlows();
        x.lot(100, 0);
        int[][] spots = {{999, 999}, {0, 999}, {999, 0}, {0, 0}, {1, 1}, {0, 1}, {1, 0}, {999, 0}};
        for (int i = 0; i < spots.length; i++) {
            x.thing(1);
            told(x, 0, i + 1, i + 1, 0);
            x.place(i + 1, spots[i][0], spots[i][1]);
        }
        due("10: each pair once", x.recall(0), 7);
        int[][] want = {{0, 0, 4, 1}, {1, 0, 7, 1}, {999, 0, 11, 2}, {0, 1, 6, 1}, {1, 1, 5, 1}, {0, 999, 2, 1},
                {999, 999, 1, 1}};
        for (int k = 0; k < want.length; k++) {
            for (int what = 0; what < 4; what++) {
                due("10: recalled(" + k + ", " + what + ")", x.recalled(k, what), want[k][what]);
            }
        }
    }

    private static void recallRefusedKeepsTheList() {
        for (int lot : new int[] {3, 6, 7, -1, -2, 48, Integer.MIN_VALUE, Integer.MAX_VALUE}) {
            refused("10: recall(" + lot + ")", x -> x.recall(lot), NONE);
        }
    }

    private static void recalledInRange() {
        LotFlows x = scene();
        due("11: three rows", x.recall(0), 3);
        for (int what = 0; what < 4; what++) {
            due("11: row 2", x.recalled(2, what) != NONE, true);
            for (int k : new int[] {-1, 3, 48, Integer.MIN_VALUE, Integer.MAX_VALUE}) {
                due("11: recalled(" + k + ", " + what + ")", x.recalled(k, what), NONE);
            }
        }
        for (int what : new int[] {-1, 4, Integer.MIN_VALUE, Integer.MAX_VALUE}) {
            due("11: recalled(0, " + what + ")", x.recalled(0, what), NONE);
        }
        LotFlows y = new LotFlows();
        due("11: before a list", y.recalled(0, 3), NONE);
        y.lot(MOST, 0);
        y.thing(1);
        y.thing(0);
        y.place(1, 0, 0);
        y.place(2, 1, 0);
        due("11: nothing came", y.recall(0), 0);
        due("11: an empty list", y.recalled(0, 0), NONE);
        told(y, 0, 1, MOST, 0);
        due("11: one row", y.recall(0), 1);
        due("11: the most units", y.recalled(0, 2), MOST);
        told(y, 1, 2, MOST, 0);
        due("11: two rows", y.recall(0), 2);
        due("11: none left there", y.recalled(0, 2), 0);
        due("11: but one thing", y.recalled(0, 3), 1);
        due("11: all in the drain", y.recalled(1, 2), MOST);
    }

    private static void recalledAsTheListWasMade() {
        LotFlows x = scene();
        x.recall(1);
        long[] before = rowsOf(x);
        x.place(5, 900, 900);
        told(x, 0, 5, 5, 10);
        told(x, 3, 5, 5, 10);
        x.correct(1, 0, 20);
        x.hold(1, false);
        x.lot(5, 5);
        x.thing(1);
        x.top(3, NONE, 5);
        long[] after = rowsOf(x);
        for (int i = 0; i < before.length; i++) {
            due("11: as the list was made, " + i, after[i], before[i]);
        }
        x.recall(1);
        due("11: made anew, it is another", x.recalled(0, 2) != before[2] || x.recalled(0, 0) != before[0], true);
    }

    private static long[] rowsOf(LotFlows x) {
        long[] rows = new long[16];
        for (int i = 0; i < 16; i++) {
            rows[i] = x.recalled(i / 4, i % 4);
        }
        return rows;
    }

    // Promise 12

    private static void holdIsNew() {
        LotFlows x = new LotFlows();
        x.lot(10, 0);
        x.thing(1);
        x.thing(0);
        for (int node : new int[] {-1, 3, 48, Integer.MIN_VALUE, Integer.MAX_VALUE}) {
            due("12: hold(" + node + ", true)", x.hold(node, true), false);
            due("12: hold(" + node + ", false)", x.hold(node, false), false);
        }
        due("12: the next node is not held", x.thing(2), 3);
        due("12: it is not", x.hold(3, false), false);
        for (int node = 0; node < 4; node++) {
            due("12: new", x.hold(node, true), true);
            due("12: not new", x.hold(node, true), false);
        }
        for (int node = 0; node < 4; node++) {
            due("12: new", x.hold(node, false), true);
            due("12: not new", x.hold(node, false), false);
        }
        due("12: new again", x.hold(0, true), true);
        for (int node : NO_NODE) {
            refused("12: hold(" + node + ", true)", y -> y.hold(node, true) ? 1 : 0, 0);
            refused("12: hold(" + node + ", false)", y -> y.hold(node, false) ? 1 : 0, 0);
        }
    }

    // Promise 13

    private static void correctFlowAndAmount() {
        LotFlows x = new LotFlows();
        x.lot(MOST, 0);
        x.thing(1);
        due("13: no flow yet", x.correct(0, 1, 0), NONE);
        told(x, 0, 1, 5, 0);
        due("13: no second flow", x.correct(1, 1, 0), NONE);
        due("13: no flow -1", x.correct(-1, 1, 0), NONE);
        due("13: no flow min", x.correct(Integer.MIN_VALUE, 1, 0), NONE);
        due("13: no flow max", x.correct(Integer.MAX_VALUE, 1, 0), NONE);
        due("13: the least", x.correct(0, 0, 0), 2);
        due("13: left(1)", x.left(1), 0);
        due("13: the greatest", x.correct(0, MOST, 0), 2);
        due("13: left(1)", x.left(1), MOST);
        for (long amount : new long[] {-1, MOST + 1, Long.MIN_VALUE, Long.MAX_VALUE, 1L << 32}) {
            due("13: amount " + amount, x.correct(0, amount, 0), NONE);
        }
        due("13: left(1)", x.left(1), MOST);
        due("13: 0 again", x.correct(0, 0, 0), 2);
        due("13: 0 as before", x.correct(0, 0, 0), 0);
        due("13: one unit", x.correct(0, 1, 0), 2);
        told(x, 1, x.thing(0), 1, 0);
        due("13: one that did not happen", x.correct(1, 0, 0), 2);
        due("13: it needs nothing that is there", x.correct(0, 0, 0), 2);
        due("13: and now it can't happen", x.correct(1, 1, 0), NONE);
    }

    private static void correctToldDay() {
        LotFlows x = twoLotsAndATank();
        told(x, 0, 2, 10, 50);
        due("13: before day 0", x.correct(0, 9, -1), NONE);
        due("13: day min", x.correct(0, 9, Long.MIN_VALUE), NONE);
        due("13: day 0, before that of the flow", x.correct(0, 9, 0), 2);
        due("13: day 0 again", x.correct(0, 8, 0), 2);
        due("13: day 30", x.correct(0, 7, 30), 2);
        due("13: day 29", x.correct(0, 6, 29), NONE);
        due("13: a refused one is not the last", x.correct(0, 101, 60), NONE);
        due("13: a refused one is not the last", x.correct(1, 1, 60), NONE);
        due("13: a refused one is not the last", x.correct(0, -1, 60), NONE);
        due("13: day 30 again", x.correct(0, 6, 30), 2);
        due("13: the same amount is a correction", x.correct(0, 6, 40), 0);
        due("13: day 39", x.correct(0, 5, 39), NONE);
        due("13: behind the last day", x.correct(0, 5, LAST_DAY + 1), NONE);
        due("13: day max", x.correct(0, 5, Long.MAX_VALUE), NONE);
        due("13: wrapped around", x.correct(0, 5, (1L << 32) + 50), NONE);
        due("13: the last day", x.correct(0, 5, LAST_DAY), 2);
        due("13: the day before it", x.correct(0, 4, LAST_DAY - 1), NONE);
        due("13: the last day again", x.correct(0, 4, LAST_DAY), 2);
        due("13: left(2)", x.left(2), 4);
    }

    private static void correctHeld() {
        LotFlows x = twoLotsAndATank();
        told(x, 0, 2, 10, 0);
        told(x, 2, 3, 5, 0);
        x.hold(0, true);
        due("13: held, more", x.correct(0, 11, 0), NONE);
        due("13: held, the same", x.correct(0, 10, 0), 0);
        due("13: held, less", x.correct(0, 9, 0), 2);
        due("13: held, as it was first", x.correct(0, 10, 0), NONE);
        x.hold(2, true);
        due("13: a held thing, more", x.correct(1, 6, 0), NONE);
        due("13: a held thing, 0", x.correct(1, 0, 0), 2);
        due("13: a held thing, 0 to 1", x.correct(1, 1, 0), NONE);
        x.hold(0, false);
        due("13: into a held thing, more", x.correct(0, 10, 0), 2);
        x.hold(2, false);
        x.hold(3, true);
        due("13: into a held thing, more", x.correct(1, 5, 0), 2);
    }

    private static void correctMustHappen() {
        LotFlows x = twoLotsAndATank();
        told(x, 0, 2, 50, 2);
        told(x, 2, 3, 20, 4);
        told(x, 2, 3, 10, 4);
        told(x, 0, 3, 40, 6);
        due("13: too much for the lot", x.correct(0, 61, 0), NONE);
        due("13: all of the lot", x.correct(0, 60, 0), 2);
        due("13: too little for the others", x.correct(0, 29, 0), NONE);
        due("13: just enough", x.correct(0, 30, 0), 2);
        due("13: too much for another of its day", x.correct(1, 21, 0), NONE);
        due("13: too much behind another of its day", x.correct(2, 11, 0), NONE);
        due("13: less", x.correct(1, 19, 0), 2);
        due("13: as much as was left", x.correct(2, 11, 0), 2);
        due("13: more of the lot", x.correct(3, 71, 0), NONE);
        due("13: all of the lot", x.correct(3, 70, 0), 2);
        due("13: nothing came to give", x.correct(0, 0, 0), NONE);
        due("13: left(2)", x.left(2), 0);
        due("13: left(3)", x.left(3), 100);
    }

    private static void correctCountsNodes() {
        LotFlows x = twoLotsAndATank();
        x.thing(0);
        told(x, 0, 2, 10, 0);
        told(x, 1, 2, 10, 0);
        told(x, 2, 3, 10, 1);
        told(x, 3, 4, 10, 2);
        due("13: no other units", x.correct(0, 10, 0), 0);
        // The pallet is empty before and behind it; the drain has as many units, but other ones.
        due("13: lot, tank and drain", x.correct(0, 30, 0), 3);
        due("13: left(4)", x.left(4), 10);
        due("13: back", x.correct(0, 10, 0), 3);
        due("13: all but the pallet", x.correct(1, 0, 0), 3);
        due("13: pallet and drain", x.correct(3, 9, 0), 2);
        // The unit of lot 1 goes through to the drain: the pallet has one unit of lot 0 before and behind it.
        due("13: lot, tank and drain, not the pallet", x.correct(1, 1, 0), 3);
        due("13: back(4, 1)", x.back(4, 1), 1);
        due("13: left(3)", x.left(3), 1);
        due("13: left(2)", x.left(2), 1);
    }

    private static void correctRefusedChangesNothing() {
        refusedCorrect(6, 1, 20);
        refusedCorrect(-1, 1, 20);
        refusedCorrect(400, 1, 20);
        refusedCorrect(0, -1, 20);
        refusedCorrect(0, MOST + 1, 20);
        refusedCorrect(0, 41, 19);
        refusedCorrect(0, 41, -1);
        refusedCorrect(0, 41, LAST_DAY + 1);
        refusedCorrect(1, 19, 21);
        refusedCorrect(3, 11, LAST_DAY);
        refusedCorrect(0, 101, 21);
        refusedCorrect(0, 16, 21);
        refusedCorrect(0, 0, LAST_DAY);
        refusedCorrect(2, 54, 21);
        refusedCorrect(2, 11, 21);
        refusedCorrect(4, 29, 21);
    }

    // Promise 14

    private static void topThingAndLot() {
        LotFlows x = scene();
        for (int thing : NO_NODE) {
            due("14: no thing " + thing, x.top(thing, 0, 1), NONE);
            if (thing != NONE) {
                due("14: no lot " + thing, x.top(3, thing, 1), NONE);
            }
        }
        for (int lot = 0; lot < 3; lot++) {
            due("14: a lot is no thing", x.top(lot, 0, 1), NONE);
        }
        due("14: a drain is none", x.top(6, 0, 1), NONE);
        for (int thing = 3; thing < 7; thing++) {
            due("14: a thing is no lot", x.top(3, thing, 1), NONE);
        }
        LotFlows y = new LotFlows();
        y.lot(10, 0);
        for (int kind = 1; kind <= 4; kind++) {
            y.thing(kind);
            due("14: of kind " + kind, y.top(kind, 0, 1), 1);
        }
        for (int i = 5; i < 47; i++) {
            y.thing(0);
        }
        y.thing(4);
        due("14: the last node", y.top(47, 0, 1), 1);
        due("14: left(0)", y.left(0), 5);
    }

    private static void topAmount() {
        LotFlows x = new LotFlows();
        x.lot(MOST, 0);
        x.lot(3, 0);
        x.lot(MOST, 0);
        x.thing(1);
        for (int lot = NONE; lot < 2; lot++) {
            for (long amount : new long[] {0, -1, MOST + 1, Long.MIN_VALUE, Long.MAX_VALUE, (1L << 32) + 1}) {
                due("14: top(3, " + lot + ", " + amount + ")", x.top(3, lot, amount), NONE);
            }
        }
        due("14: more than the lot has", x.top(3, 1, 4), NONE);
        due("14: all that it has", x.top(3, 1, 3), 1);
        due("14: nothing left of it", x.top(3, 1, 1), NONE);
        due("14: one unit", x.top(3, NONE, 1), 1);
        due("14: the most of one", x.top(3, 2, MOST), 1);
        due("14: more than is left in all", x.top(3, NONE, MOST), NONE);
        due("14: all that is left", x.top(3, NONE, MOST - 1), 1);
        due("14: nothing left in all", x.top(3, NONE, 1), NONE);
        due("14: left(3)", x.left(3), 2 * MOST + 3);
    }

    private static void topDay() {
        LotFlows x = new LotFlows();
        x.lot(10, 0);
        x.lot(10, 1);
        x.lot(10, 5);
        x.lot(10, 6);
        x.lot(10, LAST_DAY);
        x.thing(2);
        x.thing(4);
        due("14: day 0 without a flow, a lot of day 1", x.top(5, 1, 1), NONE);
        due("14: day 0 without a flow, of all", x.top(5, NONE, 11), NONE);
        due("14: day 0 without a flow, a lot of day 0", x.top(5, 0, 1), 1);
        told(x, 0, 5, 1, 5);
        told(x, 0, 5, 1, 2);
        due("14: the greatest day, not the last told", x.top(5, 2, 1), 1);
        due("14: a day later", x.top(5, 3, 1), NONE);
        due("14: of all from whose day on it is", x.top(5, NONE, 27), NONE);
        stateRefused(x, 5, 6, 4, 4);
        told(x, 5, 6, 4, 5);
        told(x, 0, 6, 1, LAST_DAY);
        due("14: corrected to 0", x.correct(5, 0, 0), 2);
        due("14: its day counts still", x.top(5, 4, 10), 1);
        stateRefused(x, 5, 6, 1, LAST_DAY - 1);
        told(x, 5, 6, 10, LAST_DAY);
        due("14: of all on the last day", x.top(5, NONE, 36), 4);
    }

    private static void topOldestFirst() {
        LotFlows x = new LotFlows();
        x.lot(5, 4);
        x.lot(5, 2);
        x.lot(5, 4);
        x.lot(5, 0);
        x.lot(5, 3);
        x.thing(1);
        told(x, 3, 5, 1, 4);
        due("14: as much as the oldest has left", x.top(5, NONE, 4), 1);
        due("14: an empty one makes no flow", x.top(5, NONE, 5), 1);
        due("14: one more than one has", x.top(5, NONE, 6), 2);
        long[] want = {4, 0, 5, 0, 0};
        for (int lot = 0; lot < 5; lot++) {
            due("14: of one day by numbers, left(" + lot + ")", x.left(lot), want[lot]);
        }
        due("14: more than all have", x.top(5, NONE, 10), NONE);
        due("14: all that all have", x.top(5, NONE, 9), 2);
        due("14: the oldest first, flow 3", x.correct(3, 5, 0), 0);
        due("14: the oldest first, flow 4", x.correct(4, 1, 0), 0);
        due("14: the lesser number first, flow 5", x.correct(5, 4, 0), 0);
        due("14: the last, flow 6", x.correct(6, 5, 0), 0);
        due("14: no flow 7", x.correct(7, 5, 0), NONE);
    }

    private static void topHeld() {
        LotFlows x = twoLotsAndATank();
        x.hold(0, true);
        x.hold(2, true);
        due("14: the lot is held", x.top(2, 0, 1), NONE);
        due("14: of all that are not held, too much", x.top(2, NONE, 101), NONE);
        due("14: of all that are not held", x.top(2, NONE, 100), 1);
        due("14: the held one gave nothing", x.left(0), 100);
        x.hold(0, false);
        due("14: not any more", x.top(2, 0, 1), 1);
        x.hold(0, true);
        x.hold(1, true);
        due("14: all are held", x.top(2, NONE, 1), NONE);
    }

    private static void topFlowLimit() {
        LotFlows one = withFlows(399);
        due("14: two flows are one too many", one.top(2, NONE, MOST - 798 + 1), NONE);
        due("14: nothing changed", one.left(0), MOST - 798);
        due("14: nothing changed", one.left(1), MOST);
        due("14: no flow was told", one.correct(399, 0, 0), NONE);
        due("14: the 400th", one.top(2, NONE, MOST - 798), 1);
        due("14: the 401st", one.top(2, 1, 1), NONE);
        due("14: the 401st", one.top(2, NONE, 1), NONE);
        due("14: nothing changed", one.left(1), MOST);
        LotFlows two = withFlows(398);
        due("14: the 399th and the 400th", two.top(2, NONE, MOST - 796 + 1), 2);
        due("14: left(1)", two.left(1), MOST - 1);
        due("14: flow 399", two.correct(399, 1, 0), 0);
        due("14: the 401st", two.top(2, 1, 1), NONE);
    }

    private static void topRefusedChangesNothing() {
        refusedTop(7, 0, 1);
        refusedTop(-1, 0, 1);
        refusedTop(0, 0, 1);
        refusedTop(6, 0, 1);
        refusedTop(3, 7, 1);
        refusedTop(3, 3, 1);
        refusedTop(3, FULL, 1);
        refusedTop(3, 0, 0);
        refusedTop(3, 0, MOST + 1);
        refusedTop(3, NONE, 0);
        refusedTop(3, NONE, MOST + 1);
        refusedTop(3, 1, 1);
        refusedTop(3, 2, 1);
        refusedTop(3, 0, 61);
        refusedTop(3, NONE, 61);
    }

    // Promises 15 and 16

    private static void wholeOfEachNode() {
        LotFlows x = scene();
        for (int node = 0; node < 7; node++) {
            due("15: whole(" + node + ")", x.whole(node), true);
        }
        for (int node : NO_NODE) {
            due("15: whole(" + node + ")", x.whole(node), false);
        }
        told(x, 0, 5, 60, 10);
        told(x, 3, 5, 23, 10);
        due("15: an emptied lot", x.whole(0), true);
        due("15: an emptied thing", x.whole(3), true);
        due("15: a new node", x.whole(x.thing(1)), true);
        due("15: a new lot", x.whole(x.lot(1, 0)), true);
        due("15: the last correction", x.correct(1, 0, 20), NONE);
        for (int node = 0; node < 9; node++) {
            due("15: whole(" + node + ")", x.whole(node), true);
        }
    }

    private static void lossOfEachNode() {
        LotFlows x = scene();
        long[] want = {0, 0, 0, 5, 2, 0, 0};
        for (int node = 0; node < want.length; node++) {
            due("16: loss(" + node + ")", x.loss(node), want[node]);
        }
        for (int node : NO_NODE) {
            due("16: loss(" + node + ")", x.loss(node), NONE);
        }
        due("16: a second drain", x.thing(0), 7);
        told(x, 3, 7, 23, 10);
        told(x, 0, 7, 60, 0);
        due("16: into both", x.loss(3), 28);
        due("16: all of a lot that was left", x.loss(0), 60);
        stateRefused(x, 3, 7, 1, 10);
        due("16: refused, nothing went", x.loss(3), 28);
        due("16: corrected to 0", x.correct(4, 0, 20), 2);
        due("16: it did not happen", x.loss(3), 23);
    }
}
