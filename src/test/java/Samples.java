/** Objects to begin with, and the wrong numbers to try on them. */
final class Samples {
    static final int[] TEN_STEPS = {1, 16, 4, 31, 7, 28, 19, 25, 4, 16};

    /** Its change has the order 15, the greatest one that eight bells allow, so that it comes round by 150 steps. */
    static final int[] LONGEST = {228, 240, 201, 135, 57, 195, 147, 207, 240, 9};

    private Samples() {
    }

    /** Three changes of five bells, two steps, three of them rung. */
    static BellRanks used() {
        BellRanks x = Checks.withSteps(Checks.rows(5, "12340", "01423", "43210"), 1, 16);
        x.ring(2, 3);
        return x;
    }

    /** 16 different changes of five bells, ten steps, 200 of them rung. */
    static BellRanks full() {
        BellRanks x = new BellRanks();
        for (int number = 0; number < 16; number++) {
            x.write(7 * number + 3);
        }
        Checks.withSteps(x, TEN_STEPS);
        x.ring(15, 200);
        return x;
    }

    /** As many bells hung again, ahead of a few steps: a book without changes that had 16. */
    static BellRanks emptied() {
        BellRanks x = full();
        x.setBells(5);
        return Checks.withSteps(x, 16, 1);
    }

    /** All bits of the places of so many bells. */
    static int all(int bells) {
        return (1 << bells) - 1;
    }

    /** Numbers below 0 and from a bound on: those next to it, and the farthest ones. */
    static int[] outside(int bound) {
        return new int[] {-1, bound, bound + 1, -bound, Integer.MAX_VALUE, Integer.MIN_VALUE};
    }
}
