/** Each promise of the document by itself: ordinary inputs, edges, wrong inputs. */
public final class PromisesTest {
    private static final Class<IndexOutOfBoundsException> INDEX = Checks.INDEX;
    private static final Class<IllegalArgumentException> ARGUMENT = Checks.ARGUMENT;
    private static final Class<IllegalStateException> STATE = Checks.STATE;

    private static final Checks checks = new Checks();

    public static void main(String[] args) {
        newObject();
        setBells();
        write();
        swap();
        next();
        behind();
        back();
        repeat();
        step();
        stepsOfEachNumberOfBells();
        clear();
        ring();
        bell();
        told();
        toldOfManyRings();
        round();
        apart();
        count();
        kept();
        comes();
        comesLatest();
        differ();
        advise();
        mean();
        digest();
        exceptionsChangeNothing();
        exampleOfTheReadme();
        checks.end();
    }

    // ---- promise 1

    private static void newObject() {
        BellRanks x = new BellRanks();
        counts("new", x, 5, 120, 0, 0, 0, 0);
        checks.fails("new: no change", INDEX, () -> x.told(0, 0));
        checks.fails("new: no step", INDEX, () -> x.kept(0));
    }

    // ---- promise 2

    private static void setBells() {
        BellRanks x = new BellRanks();
        checks.same("setBells 2", x.setBells(2), 5);
        counts("two bells", x, 2, 2, 0, 0, 0, 0);
        checks.same("setBells 8", x.setBells(8), 2);
        counts("eight bells", x, 8, 40320, 0, 0, 0, 0);
        x.write(7);
        x.step(0);
        x.ring(0, 3);
        checks.same("setBells, as many as there were", x.setBells(8), 8);
        counts("the rung steps stay", x, 8, 40320, 0, 0, 0, 3);
        checks.same("the first change has the number 0 again", x.write(40319), 0);
        for (int bells : new int[] {1, 9, 0, -1, Integer.MIN_VALUE, Integer.MAX_VALUE}) {
            checks.fails("setBells " + bells, ARGUMENT, () -> x.setBells(bells));
        }
        counts("wrong bells", x, 8, 40320, 1, 1, 0, 3);
    }

    // ---- promise 3

    private static void write() {
        BellRanks x = new BellRanks();
        checks.same("write 0", x.write(0), 0);
        checks.same("write 119", x.write(119), 1);
        checks.same("write 1", x.write(1), 2);
        checks.same("write 33", x.write(33), 3);
        row("rank 0", x, 0, "01234");
        row("rank 119", x, 1, "43210");
        row("rank 1", x, 2, "01243");
        row("rank 33", x, 3, "12340");
        for (int rank : new int[] {-1, 120, Integer.MIN_VALUE, Integer.MAX_VALUE}) {
            checks.fails("write " + rank, INDEX, () -> x.write(rank));
        }
        for (int number = 4; number < 16; number++) {
            checks.same("write, number " + number, x.write(number), number);
        }
        checks.fails("write the 17th", STATE, () -> x.write(0));
        checks.fails("write the 17th of no rank", INDEX, () -> x.write(120));
        counts("full book", x, 5, 120, 16, 16, 0, 0);
    }

    // ---- promise 4

    private static void swap() {
        BellRanks x = book(5, 0, 0);
        checks.same("swap 0", x.swap(0, 0), 24);
        checks.same("swap 3", x.swap(0, 3), 25);
        row("swapped", x, 0, "10243");
        row("the other one", x, 1, "01234");
        checks.fails("swap place 4", INDEX, () -> x.swap(0, 4));
        checks.fails("swap place -1", INDEX, () -> x.swap(0, -1));
        checks.fails("swap place far", INDEX, () -> x.swap(0, Integer.MAX_VALUE));
        checks.fails("swap place far ahead", INDEX, () -> x.swap(0, Integer.MIN_VALUE));
        noSuchChange("swap", x, 2, change -> x.swap(change, 0));
        row("not swapped", x, 0, "10243");
        BellRanks two = book(2, 0);
        checks.same("swap of two", two.swap(0, 0), 1);
        checks.same("swap of two back", two.swap(0, 0), 0);
        checks.fails("swap of two, place 1", INDEX, () -> two.swap(0, 1));
    }

    // ---- promise 5

    private static void next() {
        BellRanks x = book(5, 0, 23, 119);
        checks.same("next of 0", x.next(0), 1);
        checks.same("next of 23", x.next(1), 24);
        row("rank 24", x, 1, "10234");
        checks.same("next of the greatest", x.next(2), 0);
        row("rounds", x, 2, "01234");
        noSuchChange("next", x, 3, x::next);
        BellRanks eight = book(8, 40319);
        checks.same("next of the greatest of eight", eight.next(0), 0);
    }

    // ---- promise 6

    private static void behind() {
        BellRanks x = book(3, 1, 3);
        row("a", x, 0, "021");
        row("b", x, 1, "120");
        checks.same("a behind b", x.behind(0, 1), 2);
        row("a, then b", x, 2, "210");
        checks.same("b behind a", x.behind(1, 0), 3);
        row("b, then a", x, 3, "102");
        checks.same("a behind itself", x.behind(0, 0), 4);
        row("a, then a", x, 4, "012");
        row("a stays", x, 0, "021");
        row("b stays", x, 1, "120");
        noSuchChange("behind, a", x, 5, change -> x.behind(change, 0));
        noSuchChange("behind, b", x, 5, change -> x.behind(0, change));
        for (int number = 5; number < 16; number++) {
            x.write(0);
        }
        checks.fails("behind, full", STATE, () -> x.behind(0, 1));
        checks.fails("behind, full and no such a", INDEX, () -> x.behind(16, 1));
        checks.fails("behind, full and no such b", INDEX, () -> x.behind(1, 16));
        checks.same("full", x.count(2), 16);
    }

    // ---- promise 7

    private static void back() {
        BellRanks x = book(5, 33, 0, 33);
        checks.same("back of the rounds", x.back(1), 0);
        checks.same("back", x.back(0), rankOf("40123"));
        row("turned back", x, 0, "40123");
        row("made behind it", x, x.behind(2, 0), "01234");
        row("ahead of it", x, x.behind(0, 2), "01234");
        checks.same("back of back", x.back(0), 33);
        noSuchChange("back", x, 5, x::back);
    }

    // ---- promise 8

    private static void repeat() {
        // 12043: a ring of three and a ring of two.
        int rank = rankOf("12043");
        String[] due = {"01234", "12043", "20134", "01243", "12034", "20143", "01234", "12043"};
        for (int times = 0; times < due.length; times++) {
            BellRanks x = book(5, rank);
            checks.same("repeat " + times, x.repeat(0, times), rankOf(due[times]));
            row("repeated " + times, x, 0, due[times]);
        }
        BellRanks x = book(5, rank, rank);
        checks.same("repeat 9999", x.repeat(0, 9999), rankOf(due[9999 % 6]));
        row("the other one", x, 1, "12043");
        checks.fails("repeat 10000", ARGUMENT, () -> x.repeat(1, 10000));
        checks.fails("repeat -1", ARGUMENT, () -> x.repeat(1, -1));
        noSuchChange("repeat", x, 2, change -> x.repeat(change, 1));
        noSuchChange("repeat, wrong times", x, 2, change -> x.repeat(change, -1));
        row("not repeated", x, 1, "12043");
    }

    // ---- promise 9

    private static void step() {
        BellRanks x = new BellRanks();
        int[] good = {1, 16, 4, 31, 7, 28, 19, 25, 4, 1};
        int[] wrong = {0, 2, 8, 3, 5, 15, 30, -1, 32, 33, 48, Integer.MIN_VALUE, Integer.MAX_VALUE};
        for (int kept : wrong) {
            checks.fails("step " + kept, ARGUMENT, () -> x.step(kept));
        }
        for (int i = 0; i < good.length; i++) {
            checks.same("step " + good[i], x.step(good[i]), i + 1);
        }
        checks.fails("11th step", STATE, () -> x.step(1));
        checks.fails("11th step, wrong", ARGUMENT, () -> x.step(0));
        checks.same("ten steps", x.count(4), 10);
    }

    /** A way of so many places into kept ones and pairs is one of Fibonacci's. */
    private static void stepsOfEachNumberOfBells() {
        int[] due = {0, 0, 2, 3, 5, 8, 13, 21, 34};
        for (int bells = 2; bells <= 8; bells++) {
            int taken = 0;
            for (int kept = -2; kept < 600; kept++) {
                BellRanks x = book(bells);
                int tried = kept;
                if (Checks.outcome(() -> x.step(tried)) instanceof Integer) {
                    taken++;
                }
            }
            checks.same("steps of " + bells + " bells", taken, due[bells]);
        }
    }

    // ---- promise 10

    private static void clear() {
        BellRanks x = book(5, 9);
        checks.same("clear of none", x.clear(), 0);
        x.step(1);
        x.step(16);
        x.ring(0, 1);
        checks.same("clear of two", x.clear(), 2);
        counts("cleared", x, 5, 120, 1, 1, 0, 1);
        checks.fails("cleared step", INDEX, () -> x.kept(0));
        checks.same("step after clear", x.step(4), 1);
        checks.same("kept after clear", x.kept(0), 4);
    }

    // ---- promise 11

    private static void ring() {
        BellRanks x = book(5, 0, 0, 0);
        checks.same("ring without steps", x.ring(0, 200), 0);
        checks.same("nothing rung", x.count(5), 0);
        x.step(16);
        x.step(1);
        checks.same("ring 1", x.ring(0, 1), rankOf("10324"));
        checks.same("ring 1 again from the first step", x.ring(0, 1), 0);
        checks.same("ring 2", x.ring(0, 2), rankOf("13042"));
        checks.same("ring 3, round again", x.ring(1, 3), rankOf("31402"));
        checks.same("ring 200", x.ring(2, 200), 0);
        checks.same("rung in all", x.count(5), 207);
        checks.fails("ring 0", ARGUMENT, () -> x.ring(0, 0));
        checks.fails("ring 201", ARGUMENT, () -> x.ring(0, 201));
        checks.fails("ring -1", ARGUMENT, () -> x.ring(0, -1));
        noSuchChange("ring", x, 3, change -> x.ring(change, 1));
        noSuchChange("ring, wrong steps", x, 3, change -> x.ring(change, 0));
        checks.same("rung in all, unchanged", x.count(5), 207);
        x.clear();
        x.step(31);
        checks.same("all kept", x.ring(0, 5), rankOf("13042"));
        checks.same("steps that keep all count", x.count(5), 212);
        x.clear();
        checks.fails("ring 0 without steps", ARGUMENT, () -> x.ring(0, 0));
    }

    // ---- promise 12

    private static void bell() {
        BellRanks x = book(5, 33);
        row("bells", x, 0, "12340");
        checks.fails("bell place 5", INDEX, () -> x.bell(0, 5));
        checks.fails("bell place -1", INDEX, () -> x.bell(0, -1));
        noSuchChange("bell", x, 1, change -> x.bell(change, 0));
        BellRanks eight = book(8, 40319);
        row("bells of eight", eight, 0, "76543210");
        checks.fails("bell place 8 of eight", INDEX, () -> eight.bell(0, 8));
    }

    // ---- promise 13

    private static void told() {
        BellRanks x = book(5, 33, 0, 119, rankOf("12043"), rankOf("21043"));
        tells("12340", x, 0, 33, 4, 0, 1, 5, 5, 0, 4);
        tells("01234", x, 1, 0, 0, 0, 5, 1, 1, 5, 0);
        tells("43210", x, 2, 119, 10, 0, 3, 2, 2, 1, 4);
        tells("12043", x, 3, rankOf("12043"), 3, 1, 2, 3, 6, 0, 2);
        tells("21043", x, 4, rankOf("21043"), 4, 0, 3, 2, 2, 1, 2);
        checks.fails("told 8", INDEX, () -> x.told(0, 8));
        checks.fails("told -1", INDEX, () -> x.told(0, -1));
        noSuchChange("told", x, 5, change -> x.told(change, 0));
    }

    private static void toldOfManyRings() {
        BellRanks x = book(8, rankOf("12045673"), rankOf("10325476"), rankOf("12340675"), rankOf("10345672"));
        tells("a ring of 3 and one of 5", x, 0, rankOf("12045673"), 6, 0, 2, 5, 15, 0, 2);
        tells("four rings of 2", x, 1, rankOf("10325476"), 4, 0, 4, 2, 2, 0, 1);
        tells("a ring of 5 and one of 3", x, 2, rankOf("12340675"), 6, 0, 2, 5, 15, 0, 4);
        tells("a ring of 2 and one of 6", x, 3, rankOf("10345672"), 6, 0, 2, 6, 6, 0, 1);
    }

    // ---- promise 14

    private static void round() {
        BellRanks x = book(8, rankOf("12045367"));
        int[] due = {3, 3, 3, 3, 3, 3, 1, 1};
        for (int place = 0; place < due.length; place++) {
            checks.same("round " + place, x.round(0, place), due[place]);
        }
        BellRanks four = book(4, rankOf("1230"));
        checks.same("round of all", four.round(0, 2), 4);
        checks.fails("round place 4 of four", INDEX, () -> four.round(0, 4));
        checks.fails("round place -1", INDEX, () -> four.round(0, -1));
        noSuchChange("round", x, 1, change -> x.round(change, 0));
    }

    // ---- promise 15

    private static void apart() {
        BellRanks x = book(5, 0, 119, 33, rankOf("12304"), rankOf("10243"));
        checks.same("apart from itself", x.apart(2, 2), 0);
        checks.same("apart, rounds and greatest", x.apart(0, 1), 10);
        checks.same("apart, one swap", x.apart(2, 3), 1);
        checks.same("apart, one swap, turned", x.apart(3, 2), 1);
        checks.same("apart", x.apart(2, 4), 4);
        checks.same("apart, turned", x.apart(4, 2), 4);
        noSuchChange("apart, a", x, 5, change -> x.apart(change, 0));
        noSuchChange("apart, b", x, 5, change -> x.apart(0, change));
    }

    // ---- promise 16

    private static void count() {
        BellRanks x = book(4, 3, 3, 5, 3, 0);
        x.step(0);
        x.step(9);
        counts("count", x, 4, 24, 5, 3, 2, 0);
        x.write(1);
        x.ring(1, 200);
        counts("count later", x, 4, 24, 6, 4, 2, 200);
        x.next(4);
        counts("two that became the same", x, 4, 24, 6, 3, 2, 200);
        checks.fails("count 6", INDEX, () -> x.count(6));
        checks.fails("count -1", INDEX, () -> x.count(-1));
        int changes = 1;
        for (int bells = 2; bells <= 8; bells++) {
            changes *= bells;
            x.setBells(bells);
            counts("count of " + bells + " bells", x, bells, changes, 0, 0, 0, 200);
        }
    }

    // ---- promise 17

    private static void kept() {
        BellRanks x = new BellRanks();
        x.step(1);
        x.step(16);
        checks.same("kept 0", x.kept(0), 1);
        checks.same("kept 1", x.kept(1), 16);
        checks.fails("kept 2", INDEX, () -> x.kept(2));
        checks.fails("kept -1", INDEX, () -> x.kept(-1));
        for (int i = 2; i < 10; i++) {
            x.step(31);
        }
        checks.same("kept 9", x.kept(9), 31);
        checks.fails("kept 10", INDEX, () -> x.kept(10));
    }

    // ---- promise 18

    private static void comes() {
        BellRanks x = book(5, 33, 0);
        checks.same("comes without steps", x.comes(0), -1);
        x.step(31);
        checks.same("comes, all kept", x.comes(0), 1);
        x.clear();
        x.step(16);
        checks.same("comes, one step", x.comes(0), 2);
        x.step(1);
        checks.same("comes, plain hunt of five", x.comes(0), 10);
        checks.same("comes, rounds", x.comes(1), 10);
        x.clear();
        x.step(16);
        x.step(16);
        x.step(1);
        checks.same("comes in the midst of the method", x.comes(0), 2);
        row("comes changes nothing", x, 0, "12340");
        checks.same("comes rings nothing", x.count(5), 0);
        noSuchChange("comes", x, 2, x::comes);
    }

    /**
     * The longest way there is: ten steps whose change has the order 15. No method takes more than 150 steps,
     * so that neither 400 nor, with steps, -1 is ever answered.
     */
    private static void comesLatest() {
        BellRanks x = book(8, 0, 33333);
        for (int kept : Samples.LONGEST) {
            x.step(kept);
        }
        checks.same("comes, the longest", x.comes(0), 150);
        checks.same("comes, the longest from elsewhere", x.comes(1), 150);
        checks.same("differ 149, the longest", x.differ(149), 150);
        checks.same("differ 200, the longest", x.differ(200), 150);
        checks.same("ring 150, the longest", x.ring(1, 150), 33333);
    }

    // ---- promise 19

    private static void differ() {
        BellRanks x = new BellRanks();
        checks.same("differ without steps", x.differ(200), 1);
        checks.fails("differ 0 without steps", ARGUMENT, () -> x.differ(0));
        x.step(31);
        checks.same("differ, all kept", x.differ(200), 1);
        x.clear();
        x.step(16);
        x.step(1);
        checks.same("differ 1", x.differ(1), 2);
        checks.same("differ 9", x.differ(9), 10);
        checks.same("differ 10", x.differ(10), 10);
        checks.same("differ 200", x.differ(200), 10);
        checks.same("differ 2, after more", x.differ(2), 3);
        x.write(119);
        checks.same("a change that was not rung", x.count(3), 1);
        checks.same("differ 1, after a count", x.differ(1), 2);
        for (int steps : new int[] {0, 201, -1, Integer.MIN_VALUE, Integer.MAX_VALUE}) {
            checks.fails("differ " + steps, ARGUMENT, () -> x.differ(steps));
        }
        counts("differ changes nothing", x, 5, 120, 1, 1, 2, 0);
        row("differ does not ring the book", x, 0, "43210");
    }

    // ---- promise 20

    private static void advise() {
        BellRanks x = book(5, 33, 0, 119, rankOf("40123"));
        checks.same("advise, turned back", x.advise(0), 3);
        checks.same("advise, the rounds", x.advise(1), 1);
        checks.same("advise, the greatest", x.advise(2), 2);
        BellRanks alone = book(5, 33);
        checks.same("advise alone", alone.advise(0), 0);
        BellRanks twice = book(4, 0, 5, 0, 1);
        checks.same("advise, of several the first", twice.advise(0), 0);
        checks.same("advise, of several the first, of another", twice.advise(2), 0);
        // Behind 120 they give 201, 102 and 210; 120 behind them would give 201, 210 and 021.
        BellRanks order = book(3, rankOf("120"), rankOf("021"), rankOf("102"));
        checks.same("advise, made behind and not ahead", order.advise(0), 1);
        row("advise changes nothing", order, 0, "120");
        checks.same("advise writes nothing", order.count(2), 3);
        noSuchChange("advise", x, 4, x::advise);
    }

    // ---- promise 21

    private static void mean() {
        checks.same("mean of none", new BellRanks().mean(), 0.0);
        checks.same("mean of one", book(5, 33).mean(), 33.0);
        checks.same("mean of two", book(5, 33, 34).mean(), 33.5);
        checks.same("mean of seven", book(5, 1, 2, 3, 4, 2, 0, 0).mean(), 12.0 / 7.0);
        BellRanks full = new BellRanks();
        full.setBells(8);
        for (int i = 0; i < 16; i++) {
            full.write(40319 - i % 2);
        }
        checks.same("mean of a full book", full.mean(), 40318.5);
    }

    // ---- promise 22

    private static void digest() {
        BellRanks x = new BellRanks();
        checks.same("digest, new", x.digest(), Checks.folded(5, 120, 0, 0, 0, 0));
        x.setBells(3);
        x.write(3);
        x.write(0);
        x.step(4);
        x.step(1);
        x.ring(1, 1);
        checks.same("digest", x.digest(), Checks.folded(3, 6, 2, 2, 2, 1,
            3, 2, 0, 1, 3, 3, 0, 2, 1, 2, 0,
            2, 1, 1, 2, 2, 2, 1, 1, 1, 0, 2,
            4, 1));
        counts("digest changes nothing", x, 3, 6, 2, 2, 2, 1);
    }

    // ---- terms

    private static void exceptionsChangeNothing() {
        BellRanks x = book(5, 33, 7);
        x.step(1);
        x.ring(1, 2);
        long before = x.digest();
        checks.fails("setBells", ARGUMENT, () -> x.setBells(9));
        checks.fails("write", INDEX, () -> x.write(120));
        checks.fails("swap", INDEX, () -> x.swap(0, 4));
        checks.fails("next", INDEX, () -> x.next(2));
        checks.fails("behind", INDEX, () -> x.behind(0, 2));
        checks.fails("back", INDEX, () -> x.back(2));
        checks.fails("repeat", ARGUMENT, () -> x.repeat(0, 10000));
        checks.fails("step", ARGUMENT, () -> x.step(0));
        checks.fails("ring", ARGUMENT, () -> x.ring(0, 201));
        checks.same("digest after exceptions", x.digest(), before);
    }

    // ---- README.md

    private static void exampleOfTheReadme() {
        BellRanks x = new BellRanks();
        int change = x.write(0);
        checks.same("readme: number", change, 0);
        checks.same("readme: step", x.step(16), 1);
        checks.same("readme: step again", x.step(1), 2);
        checks.same("readme: ring", x.ring(change, 3), 82);
        row("readme: rung", x, change, "31402");
        checks.same("readme: order", x.told(change, 5), 2);
        checks.same("readme: comes", x.comes(change), 10);
        checks.fails("readme: no such change", INDEX, () -> x.bell(1, 0));
    }

    // ---- what the tests share

    private interface OfChange {
        int answer(int change);
    }

    private static BellRanks book(int bells, int... ranks) {
        return Checks.book(bells, ranks);
    }

    private static void noSuchChange(String what, BellRanks x, int written, OfChange call) {
        checks.same(what + ": so many are written", x.count(2), written);
        for (int change : new int[] {-1, written, 16, Integer.MIN_VALUE, Integer.MAX_VALUE}) {
            checks.fails(what + ", no such change " + change, INDEX, () -> call.answer(change));
        }
    }

    private static void row(String what, BellRanks x, int change, String due) {
        checks.same(what, Checks.row(x, change), due);
    }

    private static void counts(String what, BellRanks x, int... due) {
        for (int i = 0; i < due.length; i++) {
            checks.same(what + ", count " + i, x.count(i), due[i]);
        }
    }

    private static void tells(String what, BellRanks x, int change, int... due) {
        for (int i = 0; i < due.length; i++) {
            checks.same(what + ", told " + i, x.told(change, i), due[i]);
        }
    }

    private static int rankOf(String bells) {
        return Checks.rankOf(bells);
    }
}
