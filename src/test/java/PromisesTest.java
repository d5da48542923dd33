/** Each promise of the document by itself: ordinary inputs, the edges it names, and wrong inputs. */
final class PromisesTest {
    private static final int NONE = LotFlows.NONE;
    private static final int[] WRONG = {Integer.MIN_VALUE, -3, -2, -1, 48, 49, 400, Integer.MAX_VALUE};
    private static final Checks checks = new Checks();

    public static void main(String[] args) {
        newObject();
        lot();
        thing();
        flowThrows();
        flowOrder();
        flowMustHappen();
        flowLimit();
        parting();
        left();
        share();
        back();
        forward();
        place();
        recall();
        recalled();
        hold();
        correct();
        correctRefused();
        top();
        topAll();
        topLimit();
        whole();
        loss();
        exampleOfTheReadme();
        checks.end();
    }

    private static void due(String call, long got, long want) {
        checks.due(call, got, want);
    }

    private static void due(String call, boolean got, boolean want) {
        checks.due(call, got, want);
    }

    private static void told(LotFlows x, int from, int to, long amount, long day) {
        checks.flow(x, from, to, amount, day, Checks.TOLD);
    }

    private static void newObject() {
        LotFlows x = new LotFlows();
        due("1: left(0)", x.left(0), NONE);
        due("1: back(0, 0)", x.back(0, 0), NONE);
        due("1: recalled(0, 0)", x.recalled(0, 0), NONE);
        due("1: correct(0, 0, 0)", x.correct(0, 0, 0), NONE);
        due("1: whole(0)", x.whole(0), false);
        due("1: the first node", x.thing(1), 0);
        LotFlows y = new LotFlows();
        due("1: another object's first node", y.lot(1, 0), 0);
        due("1: objects are apart", x.left(0), 0);
    }

    private static void lot() {
        LotFlows x = new LotFlows();
        due("2: lot(0, 0)", x.lot(0, 0), NONE);
        due("2: lot(-1, 0)", x.lot(-1, 0), NONE);
        due("2: lot(1000001, 0)", x.lot(1_000_001, 0), NONE);
        due("2: lot(1, -1)", x.lot(1, -1), NONE);
        due("2: lot(1, 100001)", x.lot(1, 100_001), NONE);
        due("2: lot(2^32 + 1, 0)", x.lot((1L << 32) + 1, 0), NONE);
        due("2: lot(1, 2^32)", x.lot(1, 1L << 32), NONE);
        due("2: lot(min, min)", x.lot(Long.MIN_VALUE, Long.MIN_VALUE), NONE);
        due("2: lot(1, 0)", x.lot(1, 0), 0);
        due("2: lot(1000000, 100000)", x.lot(1_000_000, 100_000), 1);
        due("2: left(1)", x.left(1), 1_000_000);
        for (int i = 2; i < 48; i++) {
            due("2: lot " + i, x.lot(i, i), i);
        }
        due("2: the 49th", x.lot(1, 0), LotFlows.FULL);
        due("2: the 49th, out of range", x.lot(0, 0), NONE);
        due("2: left(47)", x.left(47), 47);
    }

    private static void thing() {
        LotFlows x = new LotFlows();
        for (int kind : new int[] {-1, 5, Integer.MIN_VALUE, Integer.MAX_VALUE}) {
            due("3: thing(" + kind + ")", x.thing(kind), NONE);
        }
        for (int i = 0; i < 48; i++) {
            due("3: thing(" + i % 5 + ")", x.thing(i % 5), i);
        }
        due("3: the 49th", x.thing(0), LotFlows.FULL);
        due("3: the 49th, another kind", x.thing(5), NONE);
        due("3: a lot as the 49th", x.lot(1, 0), LotFlows.FULL);
    }

    private static void flowThrows() {
        LotFlows x = new LotFlows();
        int lot = x.lot(100, 10);
        int tank = x.thing(2);
        int drain = x.thing(0);
        for (int none : WRONG) {
            checks.flow(x, none, tank, 1, 10, Checks.INDEX);
            checks.flow(x, lot, none, 1, 10, Checks.INDEX);
            checks.flow(x, none, none, 0, -1, Checks.INDEX);
        }
        checks.flow(x, 3, tank, 1, 10, Checks.INDEX);
        checks.flow(x, tank, lot, 1, 10, Checks.ARGUMENT);
        checks.flow(x, drain, tank, 1, 10, Checks.ARGUMENT);
        checks.flow(x, lot, lot, 1, 10, Checks.ARGUMENT);
        checks.flow(x, tank, tank, 1, 10, Checks.ARGUMENT);
        checks.flow(x, drain, drain, 1, 10, Checks.ARGUMENT);
        for (long amount : new long[] {0, -1, 1_000_001, Long.MIN_VALUE, Long.MAX_VALUE, (1L << 32) + 1}) {
            checks.flow(x, lot, tank, amount, 10, Checks.ARGUMENT);
        }
        for (long day : new long[] {-1, 100_001, Long.MIN_VALUE, Long.MAX_VALUE, (1L << 32) + 10}) {
            checks.flow(x, lot, tank, 1, day, Checks.ARGUMENT);
        }
        checks.flow(x, lot, tank, 1, 9, Checks.STATE);
        checks.flow(x, lot, tank, 101, 10, Checks.STATE);
        checks.flow(x, tank, drain, 1, 10, Checks.STATE);
        x.hold(lot, true);
        checks.flow(x, lot, tank, 1, 10, Checks.STATE);
        checks.flow(x, lot, tank, 0, 10, Checks.ARGUMENT);
        x.hold(drain, true);
        checks.flow(x, drain, tank, 1, 10, Checks.ARGUMENT);
        due("4: nothing changed", x.left(lot), 100);
        due("4: no flow was told", x.correct(0, 0, 0), NONE);
        x.hold(lot, false);
        told(x, lot, tank, 100, 10);
        told(x, tank, drain, 100, 10);
        due("4: a held drain takes", x.left(drain), 100);
    }

    private static void flowOrder() {
        LotFlows x = new LotFlows();
        x.lot(10, 0);
        x.lot(10, 0);
        x.thing(1);
        x.thing(1);
        told(x, 0, 2, 10, 5);
        told(x, 2, 3, 4, 7);
        due("4: back(3, 1)", x.back(3, 1), NONE);
        told(x, 1, 2, 10, 6);
        due("4: the later one happens before", x.back(3, 1), 1);
        due("4: share(3, 1, 0)", x.share(3, 1, 0), 1);
        due("4: share(3, 1, 1)", x.share(3, 1, 1), 2);
        LotFlows y = new LotFlows();
        y.lot(10, 0);
        y.lot(10, 0);
        y.thing(1);
        y.thing(1);
        told(y, 0, 2, 10, 5);
        told(y, 2, 3, 4, 7);
        told(y, 1, 2, 10, 7);
        due("4: of one day by numbers", y.back(3, 1), NONE);
    }

    private static void flowMustHappen() {
        LotFlows x = new LotFlows();
        x.lot(10, 0);
        x.thing(1);
        x.thing(2);
        x.thing(0);
        told(x, 0, 1, 6, 4);
        told(x, 1, 3, 6, 9);
        checks.flow(x, 1, 2, 1, 3, Checks.STATE);
        checks.flow(x, 1, 2, 1, 8, Checks.STATE);
        checks.flow(x, 1, 2, 1, 9, Checks.STATE);
        checks.flow(x, 1, 2, 1, 10, Checks.STATE);
        due("4: nothing changed", x.left(2), 0);
        due("4: nothing changed", x.left(3), 6);
        told(x, 0, 1, 4, 8);
        told(x, 1, 2, 4, 8);
        checks.flow(x, 0, 2, 1, 0, Checks.STATE);
        told(x, 2, 1, 4, 8);
        told(x, 1, 3, 4, 100_000);
        due("4: all is drained", x.left(3), 10);
        due("4: six flows stand", x.correct(5, 0, 0), 2);
        due("4: no seventh", x.correct(6, 0, 0), NONE);
    }

    private static void flowLimit() {
        LotFlows x = new LotFlows();
        x.lot(1000, 0);
        x.thing(1);
        for (int i = 0; i < 399; i++) {
            told(x, 0, 1, 1, 400 - i);
        }
        checks.flow(x, 0, 1, 602, 1, Checks.STATE);
        told(x, 0, 1, 1, 1);
        checks.flow(x, 0, 1, 1, 1, Checks.INDEX);
        checks.flow(x, 0, 0, 0, -1, Checks.INDEX);
        due("4: left(1)", x.left(1), 400);
        due("4: corrected to 0 is still told", x.correct(399, 0, 1), 2);
        checks.flow(x, 0, 1, 1, 1, Checks.INDEX);
        due("4: top finds no room", x.top(1, 0, 1), NONE);
        due("4: left(1)", x.left(1), 399);
    }

    private static void parting() {
        LotFlows x = new LotFlows();
        for (int i = 0; i < 4; i++) {
            x.lot(100, 0);
        }
        int tank = x.thing(2);
        int pallet = x.thing(4);
        told(x, 0, tank, 5, 0);
        told(x, 1, tank, 3, 0);
        told(x, 2, tank, 3, 0);
        told(x, 3, tank, 6, 0);
        // 5, 3, 3 and 6 of 17, times 5: 25, 15, 15 and 30: wholes 1, 0, 0, 1; rests 8, 15, 15, 13.
        told(x, tank, pallet, 5, 1);
        long[] want = {1, 1, 1, 2};
        for (int lot = 0; lot < 4; lot++) {
            due("parted, lot " + lot, x.share(pallet, lot, 0) * (5 / x.share(pallet, lot, 1)), want[lot]);
        }
        LotFlows y = new LotFlows();
        for (int i = 0; i < 3; i++) {
            y.lot(10, 0);
        }
        y.thing(1);
        y.thing(1);
        for (int lot = 2; lot >= 0; lot--) {
            told(y, lot, 3, 1, 0);
        }
        told(y, 3, 4, 2, 0);
        due("equal rests to lesser numbers", y.back(4, 0), 0);
        due("equal rests to lesser numbers", y.back(4, 1), 1);
        due("equal rests to lesser numbers", y.back(4, 2), NONE);
        due("what stays", y.share(3, 2, 0), 1);
        LotFlows z = new LotFlows();
        z.lot(1_000_000, 0);
        z.lot(1_000_000, 0);
        z.thing(1);
        z.thing(1);
        told(z, 0, 2, 1_000_000, 0);
        told(z, 1, 2, 999_999, 0);
        told(z, 2, 3, 1_000_000, 0);
        due("great numbers", z.share(3, 0, 0), 1);
        due("great numbers", z.share(3, 0, 1), 2);
    }

    private static void left() {
        LotFlows x = new LotFlows();
        x.lot(10, 5);
        x.thing(1);
        x.thing(0);
        for (int none : WRONG) {
            due("5: left(" + none + ")", x.left(none), NONE);
        }
        due("5: left(3)", x.left(3), NONE);
        due("5: a new lot", x.left(0), 10);
        due("5: a new thing", x.left(1), 0);
        due("5: a new drain", x.left(2), 0);
        told(x, 0, 1, 7, 5);
        told(x, 1, 2, 2, 6);
        told(x, 0, 2, 1, 6);
        due("5: the lot", x.left(0), 2);
        due("5: the thing", x.left(1), 5);
        due("5: all that came into a drain", x.left(2), 3);
    }

    private static void share() {
        LotFlows x = new LotFlows();
        x.lot(10, 0);
        x.lot(30, 0);
        x.thing(1);
        x.thing(0);
        due("6: an empty thing, above", x.share(2, 0, 0), 0);
        due("6: an empty thing, below", x.share(2, 0, 1), 1);
        told(x, 0, 2, 6, 0);
        told(x, 1, 2, 9, 0);
        due("6: share(2, 0, 0)", x.share(2, 0, 0), 2);
        due("6: share(2, 0, 1)", x.share(2, 0, 1), 5);
        due("6: share(2, 1, 0)", x.share(2, 1, 0), 3);
        due("6: share(2, 1, 1)", x.share(2, 1, 1), 5);
        due("6: a lot in itself, above", x.share(0, 0, 0), 1);
        due("6: a lot in itself, below", x.share(0, 0, 1), 1);
        due("6: another lot in a lot, above", x.share(0, 1, 0), 0);
        due("6: another lot in a lot, below", x.share(0, 1, 1), 1);
        told(x, 2, 3, 15, 0);
        due("6: a drain keeps it", x.share(3, 1, 1), 5);
        due("6: emptied, above", x.share(2, 1, 0), 0);
        due("6: emptied, below", x.share(2, 1, 1), 1);
        due("6: share(0, 2, 0)", x.share(0, 2, 0), NONE);
        due("6: share(0, 3, 1)", x.share(0, 3, 1), NONE);
        for (int none : WRONG) {
            due("6: node " + none, x.share(none, 0, 0), NONE);
            due("6: lot " + none, x.share(0, none, 0), NONE);
            due("6: part " + none, x.share(0, 0, none), NONE);
        }
        due("6: part 2", x.share(0, 0, 2), NONE);
    }

    private static void back() {
        LotFlows x = new LotFlows();
        x.thing(1);
        x.lot(10, 0);
        x.thing(1);
        x.lot(30, 0);
        x.thing(0);
        due("7: into an empty thing", x.back(0, 0), NONE);
        due("7: a lot: itself", x.back(3, 0), 3);
        due("7: a lot: no more", x.back(3, 1), NONE);
        told(x, 3, 0, 6, 0);
        told(x, 1, 0, 6, 1);
        due("7: by numbers", x.back(0, 0), 1);
        due("7: by numbers", x.back(0, 1), 3);
        due("7: no third", x.back(0, 2), NONE);
        told(x, 0, 4, 12, 2);
        due("7: came, though all went on", x.back(0, 1), 3);
        due("7: a drain", x.back(4, 1), 3);
        due("7: corrected away", x.correct(1, 0, 0), NONE);
        due("7: the drain less", x.correct(2, 1, 0), 2);
        due("7: one unit of the lesser", x.back(4, 0), 1);
        due("7: none of the other", x.back(4, 1), NONE);
        due("7: corrected away", x.correct(1, 0, 0), 3);
        due("7: of the other now", x.back(4, 0), 3);
        for (int none : WRONG) {
            due("7: back(" + none + ", 0)", x.back(none, 0), NONE);
            due("7: back(0, " + none + ")", x.back(0, none), NONE);
        }
    }

    private static void forward() {
        LotFlows x = new LotFlows();
        x.thing(1);
        x.lot(10, 0);
        x.thing(1);
        x.lot(30, 0);
        x.thing(0);
        due("8: nowhere", x.forward(1, 0), NONE);
        told(x, 1, 2, 6, 0);
        told(x, 2, 0, 6, 1);
        due("8: by numbers", x.forward(1, 0), 0);
        due("8: through one", x.forward(1, 1), 2);
        due("8: no third", x.forward(1, 2), NONE);
        due("8: another lot", x.forward(3, 0), NONE);
        told(x, 0, 4, 1, 1);
        due("8: a drain", x.forward(1, 2), 4);
        due("8: a thing is no lot", x.forward(0, 0), NONE);
        due("8: a drain is no lot", x.forward(4, 0), NONE);
        for (int none : WRONG) {
            due("8: forward(" + none + ", 0)", x.forward(none, 0), NONE);
            due("8: forward(1, " + none + ")", x.forward(1, none), NONE);
        }
    }

    private static void place() {
        LotFlows x = new LotFlows();
        x.lot(10, 0);
        x.thing(4);
        x.thing(0);
        told(x, 0, 1, 5, 0);
        due("9: a lot has no place", x.place(0, 1, 1), false);
        for (int none : WRONG) {
            due("9: place(" + none + ", 1, 1)", x.place(none, 1, 1), false);
        }
        due("9: place(3, 1, 1)", x.place(3, 1, 1), false);
        for (int wrong : new int[] {-1, 1000, Integer.MIN_VALUE, Integer.MAX_VALUE}) {
            due("9: place(1, " + wrong + ", 1)", x.place(1, wrong, 1), false);
            due("9: place(1, 1, " + wrong + ")", x.place(1, 1, wrong), false);
        }
        due("9: refused, so no place", x.recall(0), 0);
        due("9: the least", x.place(1, 0, 0), true);
        due("9: recall(0)", x.recall(0), 1);
        due("9: its place", x.recalled(0, 0), 0);
        due("9: its customer", x.recalled(0, 1), 0);
        due("9: the greatest", x.place(1, 999, 999), true);
        due("9: refused, so the place stays", x.place(1, 1000, 0), false);
        due("9: recall(0)", x.recall(0), 1);
        due("9: from now on", x.recalled(0, 0), 999);
        due("9: from now on", x.recalled(0, 1), 999);
        due("9: a drain", x.place(2, 3, 4), true);
    }

    private static void recall() {
        LotFlows x = new LotFlows();
        x.lot(100, 0);
        x.lot(100, 0);
        for (int i = 0; i < 6; i++) {
            x.thing(i % 5);
        }
        for (int i = 2; i < 7; i++) {
            told(x, 0, i, i, 0);
        }
        told(x, 1, 7, 9, 0);
        x.place(2, 8, 5);
        x.place(3, 9, 4);
        x.place(4, 8, 4);
        x.place(5, 8, 5);
        x.place(7, 8, 4);
        due("10: three pairs", x.recall(0), 3);
        int[][] want = {{8, 4, 4, 1}, {9, 4, 3, 1}, {8, 5, 7, 2}};
        for (int k = 0; k < 3; k++) {
            for (int what = 0; what < 4; what++) {
                due("10: recalled(" + k + ", " + what + ")", x.recalled(k, what), want[k][what]);
            }
        }
        due("10: no lot", x.recall(2), NONE);
        for (int none : WRONG) {
            due("10: recall(" + none + ")", x.recall(none), NONE);
        }
        due("10: the list stays", x.recalled(2, 2), 7);
        due("10: another list", x.recall(1), 1);
        due("10: another list", x.recalled(0, 2), 9);
        due("10: no more rows of the first", x.recalled(1, 0), NONE);
    }

    private static void recalled() {
        LotFlows x = new LotFlows();
        x.lot(1_000_000, 0);
        x.thing(1);
        x.thing(0);
        x.thing(1);
        due("11: before a list", x.recalled(0, 0), NONE);
        told(x, 0, 1, 1_000_000, 0);
        told(x, 1, 3, 10, 1);
        told(x, 3, 2, 10, 1);
        x.place(1, 7, 8);
        x.place(3, 7, 8);
        due("11: recall(0)", x.recall(0), 1);
        due("11: units left", x.recalled(0, 2), 999_990);
        due("11: an emptied thing counts", x.recalled(0, 3), 2);
        told(x, 1, 2, 5, 2);
        x.place(1, 1, 1);
        due("11: as the list was made", x.recalled(0, 2), 999_990);
        due("11: as the list was made", x.recalled(0, 0), 7);
        due("11: as the list was made", x.recalled(0, 1), 8);
        due("11: what = 4", x.recalled(0, 4), NONE);
        for (int none : WRONG) {
            due("11: recalled(" + none + ", 0)", x.recalled(none, 0), NONE);
            due("11: recalled(0, " + none + ")", x.recalled(0, none), NONE);
        }
        due("11: recalled(1, 0)", x.recalled(1, 0), NONE);
    }

    private static void hold() {
        LotFlows x = new LotFlows();
        x.lot(10, 0);
        x.thing(1);
        x.thing(0);
        for (int none : WRONG) {
            due("12: hold(" + none + ")", x.hold(none, true), false);
            due("12: hold(" + none + ")", x.hold(none, false), false);
        }
        for (int node = 0; node < 3; node++) {
            due("12: not held yet", x.hold(node, false), false);
            due("12: held", x.hold(node, true), true);
            due("12: held already", x.hold(node, true), false);
            due("12: not any more", x.hold(node, false), true);
            due("12: not any more already", x.hold(node, false), false);
        }
        x.hold(1, true);
        told(x, 0, 1, 5, 0);
        checks.flow(x, 1, 2, 1, 0, Checks.STATE);
        due("12: a held thing is topped", x.top(1, 0, 1), 1);
        x.hold(1, false);
        told(x, 1, 2, 1, 0);
    }

    private static void correct() {
        LotFlows x = new LotFlows();
        x.lot(100, 0);
        x.lot(100, 0);
        x.thing(1);
        x.thing(1);
        x.thing(0);
        told(x, 0, 2, 10, 0);
        told(x, 1, 2, 10, 0);
        told(x, 2, 3, 10, 1);
        told(x, 3, 4, 1, 2);
        due("13: the same amount", x.correct(0, 10, 50), 0);
        due("13: the day of the last one stands", x.correct(0, 10, 49), NONE);
        due("13: the same day", x.correct(3, 10, 50), 2);
        due("13: shares behind it change", x.correct(0, 30, 100_000), 3);
        due("13: left(0)", x.left(0), 70);
        due("13: share(4, 0, 0)", x.share(4, 0, 0), 4);
        due("13: share(4, 0, 1)", x.share(4, 0, 1), 5);
        due("13: to 0", x.correct(3, 0, 100_000), 2);
        due("13: none came", x.back(4, 0), NONE);
        due("13: none went", x.loss(3), 0);
        due("13: back again", x.correct(3, 1, 100_000), 2);
        due("13: all of the lot", x.correct(0, 100, 100_000), 3);
        LotFlows y = new LotFlows();
        y.lot(1_000_000, 0);
        y.thing(1);
        told(y, 0, 1, 1, 0);
        due("13: the greatest", y.correct(0, 1_000_000, 0), 2);
        due("13: left(1)", y.left(1), 1_000_000);
    }

    private static void correctRefused() {
        LotFlows x = new LotFlows();
        x.lot(100, 0);
        x.thing(1);
        x.thing(0);
        told(x, 0, 1, 10, 0);
        told(x, 1, 2, 8, 1);
        for (int none : WRONG) {
            due("13: correct(" + none + ")", x.correct(none, 8, 0), NONE);
        }
        due("13: no such flow", x.correct(2, 8, 0), NONE);
        for (long wrong : new long[] {-1, 1_000_001, Long.MIN_VALUE, Long.MAX_VALUE, 1L << 32}) {
            due("13: amount " + wrong, x.correct(1, wrong, 0), NONE);
        }
        for (long wrong : new long[] {-1, 100_001, Long.MIN_VALUE, Long.MAX_VALUE, 1L << 32}) {
            due("13: told " + wrong, x.correct(1, 8, wrong), NONE);
        }
        due("13: a later one could not happen", x.correct(0, 7, 9), NONE);
        due("13: more than the lot has", x.correct(0, 101, 9), NONE);
        due("13: left(1)", x.left(1), 2);
        x.hold(1, true);
        due("13: held, more", x.correct(1, 9, 9), NONE);
        due("13: held, into it more", x.correct(0, 11, 3), 2);
        due("13: held, the same", x.correct(1, 8, 3), 0);
        due("13: held, less", x.correct(1, 7, 3), 2);
        due("13: held, more than it is now", x.correct(1, 8, 3), NONE);
        due("13: a refused one is not the last", x.correct(1, 6, 3), 2);
        due("13: before the last", x.correct(1, 5, 2), NONE);
        due("13: left(2)", x.left(2), 6);
    }

    private static void top() {
        LotFlows x = new LotFlows();
        x.lot(10, 0);
        x.lot(10, 3);
        x.thing(1);
        x.thing(0);
        due("14: day 0 without a flow", x.top(2, 1, 1), NONE);
        due("14: from its day on", x.top(2, 0, 2), 1);
        due("14: left(2)", x.left(2), 2);
        told(x, 0, 3, 1, 3);
        due("14: the greatest day", x.top(2, 1, 1), 1);
        due("14: a lot is none", x.top(0, 1, 1), NONE);
        due("14: a drain is none", x.top(3, 1, 1), NONE);
        due("14: a thing is no lot", x.top(2, 2, 1), NONE);
        for (int none : WRONG) {
            due("14: top(" + none + ")", x.top(none, 0, 1), NONE);
            if (none != NONE) {
                due("14: of lot " + none, x.top(2, none, 1), NONE);
            }
        }
        for (long wrong : new long[] {0, -1, 1_000_001, Long.MIN_VALUE, Long.MAX_VALUE, (1L << 32) + 1}) {
            due("14: amount " + wrong, x.top(2, 0, wrong), NONE);
            due("14: amount " + wrong, x.top(2, NONE, wrong), NONE);
        }
        due("14: more than it has", x.top(2, 0, 8), NONE);
        x.hold(0, true);
        due("14: held", x.top(2, 0, 7), NONE);
        x.hold(0, false);
        due("14: all it has", x.top(2, 0, 7), 1);
        due("14: none left", x.top(2, 0, 1), NONE);
        due("14: left(2)", x.left(2), 10);
        checks.flow(x, 2, 3, 10, 2, Checks.STATE);
        told(x, 2, 3, 10, 3);
    }

    private static void topAll() {
        LotFlows x = new LotFlows();
        x.lot(4, 7);
        x.lot(5, 2);
        x.lot(6, 9);
        x.lot(7, 2);
        x.lot(8, 1);
        int tank = x.thing(2);
        int drain = x.thing(0);
        due("14: too young on day 0", x.top(tank, NONE, 1), NONE);
        told(x, 4, drain, 1, 8);
        due("14: corrected to 0, its day counts", x.correct(0, 0, 0), 2);
        due("14: not so much by then", x.top(tank, NONE, 25), NONE);
        x.hold(4, true);
        due("14: not so much unheld", x.top(tank, NONE, 17), NONE);
        due("14: oldest first, of one day by numbers", x.top(tank, NONE, 6), 2);
        due("14: left(1)", x.left(1), 0);
        due("14: left(3)", x.left(3), 6);
        due("14: left(0)", x.left(0), 4);
        due("14: an empty lot makes no flow", x.top(tank, NONE, 10), 2);
        due("14: left(3)", x.left(3), 0);
        due("14: left(0)", x.left(0), 0);
        due("14: left(2)", x.left(2), 6);
        due("14: held", x.left(4), 8);
        due("14: the number of the last flow", x.correct(4, 4, 0), 0);
        due("14: no flow behind it", x.correct(5, 4, 0), NONE);
        x.hold(4, false);
        told(x, 2, drain, 1, 9);
        due("14: all that is left", x.top(tank, NONE, 13), 2);
        due("14: left(tank)", x.left(tank), 29);
    }

    private static void topLimit() {
        LotFlows x = new LotFlows();
        x.lot(1000, 0);
        x.lot(1000, 0);
        x.thing(1);
        for (int i = 0; i < 399; i++) {
            told(x, 0, 2, 1, 5);
        }
        due("14: two flows are too many", x.top(2, NONE, 700), NONE);
        due("14: nothing changed", x.left(0), 601);
        due("14: nothing changed", x.left(2), 399);
        due("14: one is not", x.top(2, NONE, 601), 1);
        due("14: no more", x.top(2, 1, 1), NONE);
    }

    private static void whole() {
        LotFlows x = new LotFlows();
        for (int i = 0; i < 7; i++) {
            x.lot(1000 + i, 0);
        }
        x.thing(1);
        x.thing(2);
        x.thing(0);
        for (int i = 0; i < 7; i++) {
            told(x, i, 7, 100 + i * i, i);
        }
        for (int i = 1; i < 12; i++) {
            told(x, 7, 7 + 1 + i % 2, 7 * i, 3 + i);
        }
        for (int node = 0; node < 10; node++) {
            due("15: whole(" + node + ")", x.whole(node), true);
        }
        due("15: whole(10)", x.whole(10), false);
        for (int none : WRONG) {
            due("15: whole(" + none + ")", x.whole(none), false);
        }
    }

    private static void loss() {
        LotFlows x = new LotFlows();
        x.lot(100, 0);
        x.thing(1);
        x.thing(2);
        x.thing(0);
        x.thing(0);
        due("16: none yet", x.loss(0), 0);
        told(x, 0, 1, 50, 0);
        told(x, 1, 2, 20, 1);
        told(x, 1, 3, 3, 1);
        told(x, 1, 4, 4, 1);
        told(x, 0, 4, 5, 0);
        due("16: into both drains", x.loss(1), 7);
        due("16: of a lot", x.loss(0), 5);
        due("16: a thing that lost none", x.loss(2), 0);
        due("16: a drain", x.loss(3), 0);
        due("16: corrected", x.correct(3, 1, 0), 2);
        due("16: corrected", x.loss(1), 4);
        due("16: loss(5)", x.loss(5), NONE);
        for (int none : WRONG) {
            due("16: loss(" + none + ")", x.loss(none), NONE);
        }
    }

    private static void exampleOfTheReadme() {
        LotFlows x = new LotFlows();
        int malt = x.lot(100, 0);
        int tank = x.thing(2);
        int drain = x.thing(0);
        told(x, malt, tank, 40, 1);
        told(x, tank, drain, 5, 2);
        due("README: left", x.left(tank), 35);
        due("README: loss", x.loss(tank), 5);
        due("README: share, above", x.share(tank, malt, 0), 1);
        due("README: share, below", x.share(tank, malt, 1), 1);
        due("README: correct", x.correct(0, 30, 3), 2);
        due("README: back", x.back(drain, 0), malt);
        due("README: forward", x.forward(malt, 1), drain);
        due("README: place", x.place(tank, 12, 7), true);
        due("README: recall", x.recall(malt), 1);
        due("README: recalled", x.recalled(0, 2), 25);
        due("README: hold", x.hold(malt, true), true);
        checks.flow(x, malt, tank, 1, 4, Checks.STATE);
        due("README: hold off", x.hold(malt, false), true);
        due("README: top", x.top(tank, LotFlows.NONE, 10), 1);
        due("README: whole", x.whole(tank), true);
    }
}
