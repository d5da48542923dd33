import java.util.Random;

/**
 * For any arguments in any state only flow throws, and only what the document names: each call is made with numbers
 * about every limit on empty, ordinary and full objects. An exception of any other call ends the test.
 */
final class ThrowsTest {
    private static final int[] NUMBERS = {Integer.MIN_VALUE, Integer.MIN_VALUE + 1, -1000, -3, -2, -1, 0, 1, 2, 3, 4, 5,
        6, 23, 24, 46, 47, 48, 49, 99, 398, 399, 400, 401, 998, 999, 1000, 1001, Integer.MAX_VALUE - 1,
        Integer.MAX_VALUE};
    private static final long[] AMOUNTS = {Long.MIN_VALUE, -1, 0, 1, 2, 7, 999, 500_000, 999_999, 1_000_000, 1_000_001,
        1L << 32, Long.MAX_VALUE};
    private static final long[] DAYS = {Long.MIN_VALUE, -1, 0, 1, 5, 99_999, 100_000, 100_001, 1L << 32,
        Long.MAX_VALUE};
    private static final int CALLS = 512;
    private static final Checks checks = new Checks();

    public static void main(String[] args) {
        for (int seed = 0; seed < 300; seed++) {
            Random random = new Random(seed);
            calls(new LotFlows(), random, CALLS);
            calls(withNodes(), random, CALLS - 48);
            calls(withFlows(), random, CALLS - 448);
        }
        checks.end();
    }

    private static LotFlows withNodes() {
        LotFlows x = new LotFlows();
        for (int i = 0; i < 24; i++) {
            x.lot(1_000_000, i % 3);
            x.thing(i % 5);
        }
        return x;
    }

    private static LotFlows withFlows() {
        LotFlows x = withNodes();
        for (int i = 0; i < 400; i++) {
            x.flow(i % 24 * 2, i % 23 * 2 + 1, 1 + i, 5 + i % 7);
        }
        return x;
    }

    private static void calls(LotFlows x, Random random, int count) {
        for (int i = 0; i < count; i++) {
            if (random.nextInt(3) == 0) {
                change(x, random);
            } else {
                ask(x, random);
            }
        }
    }

    private static int number(Random random) {
        return random.nextInt(2) == 0 ? random.nextInt(48) : NUMBERS[random.nextInt(NUMBERS.length)];
    }

    private static long amount(Random random) {
        return random.nextInt(2) == 0 ? 1 + random.nextInt(1000) : AMOUNTS[random.nextInt(AMOUNTS.length)];
    }

    private static long day(Random random) {
        return random.nextInt(2) == 0 ? random.nextInt(9) : DAYS[random.nextInt(DAYS.length)];
    }

    private static void change(LotFlows x, Random random) {
        int a = number(random);
        int b = number(random);
        long amount = amount(random);
        long day = day(random);
        switch (random.nextInt(6)) {
            case 0 -> checks.due("lot, at least FULL", x.lot(amount, day) >= LotFlows.FULL, true);
            case 1 -> checks.due("thing, at least FULL", x.thing(random.nextInt(7) - 1) >= LotFlows.FULL, true);
            case 2 -> checks.due("correct, at most all nodes", inRange(x.correct(a, amount, day), 48), true);
            case 3 -> checks.due("top, at most all lots", inRange(x.top(a, b, amount), 47), true);
            default -> checks.due("flow(" + a + ", " + b + ", " + amount + ", " + day + ") throws another",
                    Checks.telling(x, a, b, amount, day) == Checks.OTHER, false);
        }
    }

    private static void ask(LotFlows x, Random random) {
        int a = number(random);
        int b = number(random);
        int c = number(random);
        switch (random.nextInt(10)) {
            case 0 -> checks.due("left, at most all units", inRange(x.left(a), 48_000_000), true);
            case 1 -> checks.due("share, at most all units", inRange(x.share(a, b, c), 48_000_000), true);
            case 2 -> checks.due("back, a node", inRange(x.back(a, b), 47), true);
            case 3 -> checks.due("forward, a node", inRange(x.forward(a, b), 47), true);
            case 4 -> x.place(a, b, c);
            case 5 -> checks.due("recall, at most all nodes", inRange(x.recall(a), 47), true);
            case 6 -> checks.due("recalled, NONE or more", x.recalled(a, b) >= LotFlows.NONE, true);
            case 7 -> x.hold(a, random.nextInt(4) == 0);
            case 8 -> x.whole(a);
            default -> checks.due("loss, at most all units", inRange(x.loss(a), 48_000_000), true);
        }
    }

    private static boolean inRange(long answer, long most) {
        return answer >= LotFlows.NONE && answer <= most;
    }
}
