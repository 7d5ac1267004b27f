/** Promise 1: each object has its own bells, book and method; what is done with one changes no other one. */
public final class ObjectsTest {
    private static final Checks checks = new Checks();

    public static void main(String[] args) {
        aNewOneChangesNoOther();
        anOldOneChangesNoNewOne();
        callsOnOneChangeNoOther();
        refusedCallsOnOneChangeNoOther();
        twoInTurns();
        checks.end();
    }

    private static void aNewOneChangesNoOther() {
        BellRanks x = Samples.full();
        String before = Checks.state(x);
        long digest = x.digest();
        checks.stands("new", new BellRanks(), "5 120 0 0 0 0;;");
        checks.stands("ahead of a new one", x, before);
        checks.same("ahead of a new one, digest", x.digest(), digest);
    }

    private static void anOldOneChangesNoNewOne() {
        BellRanks x = Checks.withSteps(Checks.book(8, 40319, 7), 0, 129);
        x.ring(1, 9);
        BellRanks y = new BellRanks();
        checks.stands("behind an old one", y, "5 120 0 0 0 0;;");
        checks.same("the first change of a new one", y.write(0), 0);
        checks.same("the first step of a new one", y.step(1), 1);
    }

    private static void callsOnOneChangeNoOther() {
        alone("setBells", x -> x.setBells(8), 5);
        alone("write", x -> x.write(5), 3);
        alone("swap", x -> x.swap(0, 0), Checks.rankOf("21340"));
        alone("next", x -> x.next(0), 34);
        alone("behind", x -> x.behind(0, 0), 3);
        alone("back", x -> x.back(0), Checks.rankOf("40123"));
        alone("repeat", x -> x.repeat(0, 2), Checks.rankOf("23401"));
        alone("step", x -> x.step(31), 3);
        alone("clear", x -> x.clear(), 2);
        alone("ring", x -> x.ring(0, 1), Checks.rankOf("13204"));
        alone("comes", x -> x.comes(0), 10);
        alone("differ", x -> x.differ(4), 5);
        alone("advise", x -> x.advise(0), 1);
    }

    private static void refusedCallsOnOneChangeNoOther() {
        alone("setBells 9", x -> x.setBells(9), Checks.ARGUMENT.getName());
        alone("write 120", x -> x.write(120), Checks.INDEX.getName());
        alone("behind, no such change", x -> x.behind(0, 3), Checks.INDEX.getName());
        alone("ring 201", x -> x.ring(0, 201), Checks.ARGUMENT.getName());
    }

    /** The call is made on one of three objects; the two others, made ahead of it and behind it, stand as they did. */
    private static void alone(String what, Checks.CallOn call, Object due) {
        BellRanks ahead = Samples.used();
        BellRanks x = Samples.used();
        BellRanks behind = Samples.full();
        String aheadStood = Checks.state(ahead);
        String behindStood = Checks.state(behind);
        checks.same(what, Checks.outcome(() -> call.answer(x)), due);
        checks.stands(what + ", the object made ahead", ahead, aheadStood);
        checks.stands(what + ", the object made behind", behind, behindStood);
    }

    private static void twoInTurns() {
        BellRanks x = new BellRanks();
        BellRanks y = new BellRanks();
        checks.same("x: setBells", x.setBells(3), 5);
        checks.same("y: setBells", y.setBells(4), 5);
        checks.same("x: write", x.write(3), 0);
        checks.same("y: write", y.write(23), 0);
        checks.same("x: write again", x.write(0), 1);
        checks.same("y: behind", y.behind(0, 0), 1);
        checks.same("x: step", x.step(4), 1);
        checks.same("y: step", y.step(0), 1);
        checks.same("y: step again", y.step(9), 2);
        checks.same("x: ring", x.ring(1, 3), 2);
        checks.same("y: ring", y.ring(1, 2), Checks.rankOf("1302"));
        checks.same("x: swap", x.swap(0, 1), Checks.rankOf("102"));
        checks.same("y: next", y.next(0), 0);
        checks.stands("x", x, "3 6 2 1 1 3; 102 102; 4");
        checks.stands("y", y, "4 24 2 2 2 2; 0123 1302; 0 9");
    }
}
