/** Counts the answers that are not as due, and knows what a flow throws. */
final class Checks {
    static final int TOLD = 0;
    static final int INDEX = 1;
    static final int ARGUMENT = 2;
    static final int STATE = 3;
    static final int OTHER = 4;

    private int looked;
    private int wrong;

    void due(String call, long got, long want) {
        looked++;
        if (got != want) {
            wrong++;
            System.out.println(call + " answered " + got + ", due is " + want);
        }
    }

    void due(String call, boolean got, boolean want) {
        due(call, got ? 1 : 0, want ? 1 : 0);
    }

    /** What a flow throws, by its exact class, as a number. */
    static int telling(LotFlows x, int from, int to, long amount, long day) {
        try {
            x.flow(from, to, amount, day);
            return TOLD;
        } catch (RuntimeException e) {
            if (e.getClass() == IndexOutOfBoundsException.class) {
                return INDEX;
            }
            if (e.getClass() == IllegalArgumentException.class) {
                return ARGUMENT;
            }
            return e.getClass() == IllegalStateException.class ? STATE : OTHER;
        }
    }

    void flow(LotFlows x, int from, int to, long amount, long day, int want) {
        due("flow(" + from + ", " + to + ", " + amount + ", " + day + ") [0 told, 1 index, 2 argument, 3 state]",
                telling(x, from, to, amount, day), want);
    }

    boolean anyWrong() {
        return wrong != 0;
    }

    void end() {
        System.out.println(looked + " answers, " + wrong + " not as due");
        if (wrong != 0) {
            System.exit(1);
        }
    }
}
