/** What the tests share: answers are compared, exceptions awaited, and faults counted. */
final class Checks {
    interface Call {
        Object answer();
    }

    private int faults = 0;

    void same(String what, Object got, Object due) {
        if (!due.equals(got)) {
            faults++;
            System.out.println(what + ": got " + got + ", due is " + due);
        }
    }

    /** The very class is asked for: a subclass would be one that the machine throws. */
    void fails(String what, Class<? extends RuntimeException> due, Call call) {
        same(what, outcome(call), due.getName());
    }

    /** What a call answers, or the name of the exception that it throws. */
    static Object outcome(Call call) {
        try {
            return call.answer();
        } catch (RuntimeException e) {
            return e.getClass().getName();
        }
    }

    void end() {
        if (faults > 0) {
            System.out.println(faults + " faults");
            System.exit(1);
        }
        System.out.println("all answers are as due");
    }
}
