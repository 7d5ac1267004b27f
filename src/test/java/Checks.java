/** What the tests share: answers are compared, exceptions awaited, states looked at, and faults counted. */
final class Checks {
    static final Class<IndexOutOfBoundsException> INDEX = IndexOutOfBoundsException.class;
    static final Class<IllegalArgumentException> ARGUMENT = IllegalArgumentException.class;
    static final Class<IllegalStateException> STATE = IllegalStateException.class;

    interface Call {
        Object answer();
    }

    interface Maker {
        BellRanks made();
    }

    interface CallOn {
        Object answer(BellRanks x);
    }

    interface OfChange {
        Object answer(BellRanks x, int change);
    }

    private int faults = 0;

    void same(String what, Object got, Object due) {
        if (!due.equals(got)) {
            faults++;
            System.out.println(what + ": got " + got + ", due is " + due);
        }
    }

    /** The very class is asked for: a subclass would be one that the machine throws. */
    void fails(String what, Class<? extends RuntimeException> due, Call call) {
        same(what, outcome(call), due.getName());
    }

    /** What a call answers, or the name of the exception that it throws. */
    static Object outcome(Call call) {
        try {
            return call.answer();
        } catch (RuntimeException e) {
            return e.getClass().getName();
        }
    }

    /** The call answers so on a new object, which stands so behind it. */
    void turns(String what, Maker maker, CallOn call, Object due, String state) {
        BellRanks x = maker.made();
        same(what, outcome(() -> call.answer(x)), due);
        stands(what, x, state);
    }

    /** The call answers so on a new object, and changes nothing. */
    void leaves(String what, Maker maker, CallOn call, Object due) {
        BellRanks twin = maker.made();
        BellRanks x = maker.made();
        same(what, outcome(() -> call.answer(x)), due);
        stands(what, x, state(twin));
        same(what + ", digest behind it", x.digest(), twin.digest());
    }

    /** The call throws this exception on a new object, and changes nothing. */
    void refuses(String what, Maker maker, CallOn call, Class<? extends RuntimeException> due) {
        leaves(what, maker, call, due.getName());
    }

    /** There is no such change in an empty book, behind the last one, and where one was with the bells before. */
    void noSuchChange(String what, OfChange call) {
        Maker[] makers = {BellRanks::new, Samples::used, Samples::full, Samples::emptied};
        for (Maker maker : makers) {
            int written = maker.made().count(2);
            for (int change : Samples.outside(written)) {
                refuses(what + ", change " + change + " of " + written, maker, x -> call.answer(x, change), INDEX);
            }
        }
    }

    void stands(String what, BellRanks x, String due) {
        same(what + ", state behind it", state(x), due);
    }

    /** What count() tells; the changes of the book; the steps of the method. */
    static String state(BellRanks x) {
        StringBuilder state = new StringBuilder();
        for (int what = 0; what <= 5; what++) {
            state.append(what == 0 ? "" : " ").append(x.count(what));
        }
        state.append(';');
        for (int change = 0; change < x.count(2); change++) {
            state.append(' ').append(row(x, change));
        }
        state.append(';');
        for (int number = 0; number < x.count(4); number++) {
            state.append(' ').append(x.kept(number));
        }
        return state.toString();
    }

    static String row(BellRanks x, int change) {
        StringBuilder row = new StringBuilder();
        int bells = x.count(0);
        for (int place = 0; place < bells; place++) {
            row.append(x.bell(change, place));
        }
        return row.toString();
    }

    /** So many bells, and changes of these ranks. */
    static BellRanks book(int bells, int... ranks) {
        BellRanks x = new BellRanks();
        x.setBells(bells);
        for (int rank : ranks) {
            x.write(rank);
        }
        return x;
    }

    /** So many bells, and these changes. */
    static BellRanks rows(int bells, String... rows) {
        BellRanks x = book(bells);
        for (String row : rows) {
            x.write(rankOf(row));
        }
        return x;
    }

    static BellRanks withSteps(BellRanks x, int... steps) {
        for (int kept : steps) {
            x.step(kept);
        }
        return x;
    }

    static int rankOf(String row) {
        return PlainRanks.all(row.length()).indexOf(row);
    }

    static int factorial(int n) {
        return n < 2 ? 1 : n * factorial(n - 1);
    }

    /** The checksum of the document over these numbers. */
    static long folded(int... numbers) {
        long d = 1579;
        for (int number : numbers) {
            d = d * 31 + number;
        }
        return d;
    }

    void end() {
        if (faults > 0) {
            System.out.println(faults + " faults");
            System.exit(1);
        }
        System.out.println("all answers are as due");
    }
}
