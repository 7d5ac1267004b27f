import java.math.BigInteger;
import java.util.Arrays;

/** Each sentence of promises 12 to 16 and 20 to 22 that names a boundary, with the state behind each call. */
public final class TellingBoundariesTest {
    private static final Checks checks = new Checks();

    public static void main(String[] args) {
        firstAndLastPlace();
        noSuchPlace();
        bellWithoutSuchAChange();
        toldOfTheRounds();
        toldOfTheGreatest();
        toldOfOneRing();
        greatestOrders();
        oddByOneInversion();
        placeOfTheFirstBell();
        wrongTold();
        toldWithoutSuchAChange();
        roundAlone();
        roundOfAllPlaces();
        noSuchPlaceOfARing();
        roundWithoutSuchAChange();
        apartFromItself();
        farthestApart();
        apartByOneSwap();
        apartWithoutSuchAChange();
        countOfNone();
        countOfTheMost();
        countOfDifferentOnes();
        countOfStepsRung();
        wrongCount();
        adviseItself();
        adviseTheSmallestNumber();
        adviseFirstAndLast();
        adviseWithoutSuchAChange();
        meanOfNone();
        meanOfOneAndTheMost();
        meanThatIsNotWhole();
        digestOfNone();
        digestInItsOrder();
        digestThatWrapsAround();
        checks.end();
    }

    // ---- promise 12

    private static void firstAndLastPlace() {
        for (int bells = 2; bells <= 8; bells++) {
            int many = bells;
            int greatest = Checks.factorial(bells) - 1;
            checks.leaves("bell 0", () -> Checks.book(many, 0, greatest), x -> x.bell(0, 0), 0);
            checks.leaves("bell at the last place", () -> Checks.book(many, 0, greatest), x -> x.bell(0, many - 1),
                many - 1);
            checks.leaves("bell 0, the greatest", () -> Checks.book(many, 0, greatest), x -> x.bell(1, 0), many - 1);
            checks.leaves("bell at the last place, the greatest", () -> Checks.book(many, 0, greatest),
                x -> x.bell(1, many - 1), 0);
        }
    }

    private static void noSuchPlace() {
        for (int bells = 2; bells <= 8; bells++) {
            int many = bells;
            for (int place : Samples.outside(bells)) {
                checks.refuses("bell " + place + " of " + bells, () -> Checks.book(many, 1), x -> x.bell(0, place),
                    Checks.INDEX);
            }
        }
        BellRanks x = Checks.book(8, 40319);
        x.setBells(3);
        x.write(0);
        checks.fails("bell 3 of three that were eight", Checks.INDEX, () -> x.bell(0, 3));
        checks.fails("round 3 of three that were eight", Checks.INDEX, () -> x.round(0, 3));
    }

    private static void bellWithoutSuchAChange() {
        checks.noSuchChange("bell", (x, change) -> x.bell(change, 0));
        checks.noSuchChange("bell, no place either", (x, change) -> x.bell(change, -1));
    }

    // ---- promise 13

    /** "0 for the rounds"; 0 inversions are an even number; each place is a ring alone; the order is "1 or more". */
    private static void toldOfTheRounds() {
        for (int bells = 2; bells <= 8; bells++) {
            tells(bells, "01234567".substring(0, bells), 0, 0, 0, bells, 1, 1, bells, 0);
        }
    }

    private static void toldOfTheGreatest() {
        for (int bells = 2; bells <= 8; bells++) {
            int inversions = bells * (bells - 1) / 2;
            tells(bells, "76543210".substring(8 - bells), Checks.factorial(bells) - 1, inversions, inversions % 2,
                (bells + 1) / 2, 2, 2, bells % 2, bells - 1);
        }
    }

    /** A ring of all places, to the next place each: the only ring, the longest one, and no bell at its place. */
    private static void toldOfOneRing() {
        for (int bells = 2; bells <= 8; bells++) {
            String row = "01234567".substring(1, bells) + "0";
            tells(bells, row, Checks.rankOf(row), bells - 1, (bells - 1) % 2, 1, bells, bells, 0, bells - 1);
        }
    }

    /** "the least number, 1 or more, that the lengths of all its rings divide". */
    private static void greatestOrders() {
        String[] rows = {"10", "120", "1230", "12043", "123450", "1204563", "12045673"};
        int[] orders = {2, 3, 4, 6, 6, 12, 15};
        for (int bells = 2; bells <= 8; bells++) {
            String row = rows[bells - 2];
            checks.leaves("order of " + row, () -> Checks.rows(row.length(), row), x -> x.told(0, 5),
                orders[bells - 2]);
            int greatest = 0;
            for (int rank = 0; rank < Checks.factorial(bells); rank++) {
                greatest = Math.max(greatest, Checks.book(bells, rank).told(0, 5));
            }
            checks.same("greatest order of " + bells, greatest, orders[bells - 2]);
        }
        tells(8, "10345672", Checks.rankOf("10345672"), 6, 0, 2, 6, 6, 0, 1);
        tells(8, "12304567", Checks.rankOf("12304567"), 3, 1, 5, 4, 4, 4, 3);
        tells(8, "10325476", Checks.rankOf("10325476"), 4, 0, 4, 2, 2, 0, 1);
        tells(8, "12307456", Checks.rankOf("12307456"), 6, 0, 2, 4, 4, 0, 3);
        // A ring of four, a ring of two and two places alone: 4 is divided by 2, and 8 is not the least.
        tells(8, "10345267", Checks.rankOf("10345267"), 4, 0, 4, 4, 4, 2, 1);
    }

    /** "It is even, if these are an even number, otherwise odd." */
    private static void oddByOneInversion() {
        for (int bells = 2; bells <= 8; bells++) {
            int many = bells;
            checks.leaves("one inversion", () -> Checks.book(many, 1), x -> x.told(0, 1), 1);
            checks.leaves("one inversion is odd", () -> Checks.book(many, 1), x -> x.told(0, 2), 1);
        }
        checks.leaves("two inversions are even", () -> Checks.rows(3, "120"), x -> x.told(0, 2), 0);
        checks.leaves("three inversions are odd", () -> Checks.rows(3, "210"), x -> x.told(0, 2), 1);
    }

    private static void placeOfTheFirstBell() {
        String[] rows = {"01234567", "70123456", "76012345", "76501234", "76540123", "76543012", "76543201", "76543210"};
        for (int i = 0; i < rows.length; i++) {
            int place = i;
            checks.leaves("place of the bell 0 in " + rows[i], () -> Checks.rows(8, rows[place]), x -> x.told(0, 7),
                place);
        }
    }

    private static void wrongTold() {
        checks.leaves("told 0, the first", Samples::used, x -> x.told(0, 0), 33);
        checks.leaves("told 7, the last", Samples::used, x -> x.told(0, 7), 4);
        for (int what : Samples.outside(8)) {
            checks.refuses("told " + what, Samples::used, x -> x.told(0, what), Checks.INDEX);
            checks.refuses("told " + what + ", full", Samples::full, x -> x.told(15, what), Checks.INDEX);
        }
    }

    private static void toldWithoutSuchAChange() {
        for (int what = -1; what <= 8; what++) {
            int wanted = what;
            checks.noSuchChange("told " + what, (x, change) -> x.told(change, wanted));
        }
    }

    private static void tells(int bells, String row, int... due) {
        for (int i = 0; i < due.length; i++) {
            int what = i;
            checks.leaves("told " + what + " of " + row, () -> Checks.rows(bells, row), x -> x.told(0, what), due[i]);
        }
    }

    // ---- promise 14

    /** "one place alone, if its own bell is there". */
    private static void roundAlone() {
        for (int bells = 2; bells <= 8; bells++) {
            int many = bells;
            for (int place = 0; place < bells; place++) {
                int at = place;
                checks.leaves("round " + place + " of the rounds", () -> Checks.book(many, 0), x -> x.round(0, at), 1);
            }
        }
        int[] due = {3, 3, 3, 1, 4, 4, 4, 4};
        for (int place = 0; place < 8; place++) {
            int at = place;
            checks.leaves("round " + place, () -> Checks.rows(8, "12035674"), x -> x.round(0, at), due[place]);
        }
    }

    private static void roundOfAllPlaces() {
        for (int bells = 2; bells <= 8; bells++) {
            int many = bells;
            String row = "01234567".substring(1, bells) + "0";
            for (int place = 0; place < bells; place++) {
                int at = place;
                checks.leaves("round " + place + " of " + row, () -> Checks.rows(many, row), x -> x.round(0, at),
                    bells);
            }
        }
    }

    private static void noSuchPlaceOfARing() {
        for (int bells = 2; bells <= 8; bells++) {
            int many = bells;
            for (int place : Samples.outside(bells)) {
                checks.refuses("round " + place + " of " + bells, () -> Checks.book(many, 1), x -> x.round(0, place),
                    Checks.INDEX);
            }
        }
    }

    private static void roundWithoutSuchAChange() {
        checks.noSuchChange("round", (x, change) -> x.round(change, 0));
        checks.noSuchChange("round, no place either", (x, change) -> x.round(change, 9));
    }

    // ---- promise 15

    private static void apartFromItself() {
        checks.leaves("apart from itself, the first", Samples::used, x -> x.apart(0, 0), 0);
        checks.leaves("apart from itself, the last", Samples::full, x -> x.apart(15, 15), 0);
        checks.leaves("apart from the same change", () -> Checks.book(8, 777, 777), x -> x.apart(0, 1), 0);
    }

    private static void farthestApart() {
        for (int bells = 2; bells <= 8; bells++) {
            int many = bells;
            int greatest = Checks.factorial(bells) - 1;
            int due = bells * (bells - 1) / 2;
            checks.leaves("rounds and greatest", () -> Checks.book(many, 0, greatest), x -> x.apart(0, 1), due);
            checks.leaves("greatest and rounds", () -> Checks.book(many, 0, greatest), x -> x.apart(1, 0), due);
        }
    }

    /** Each swap of neighbours leads from the one to the other one by itself. */
    private static void apartByOneSwap() {
        for (int bells = 2; bells <= 8; bells++) {
            for (int place = 0; place <= bells - 2; place++) {
                BellRanks x = Checks.book(bells, Checks.factorial(bells) / 3, Checks.factorial(bells) / 3);
                x.swap(1, place);
                checks.same("apart by one swap", x.apart(0, 1), 1);
                checks.same("apart by one swap, turned", x.apart(1, 0), 1);
            }
        }
        checks.leaves("apart by a bell that goes far", () -> Checks.rows(5, "12340", "01234"), x -> x.apart(0, 1), 4);
        checks.leaves("apart by two far ones", () -> Checks.rows(5, "42310", "02314"), x -> x.apart(0, 1), 7);
    }

    private static void apartWithoutSuchAChange() {
        checks.noSuchChange("apart, a", (x, change) -> x.apart(change, 0));
        checks.noSuchChange("apart, b", (x, change) -> x.apart(0, change));
        checks.noSuchChange("apart, both", (x, change) -> x.apart(change, change));
    }

    // ---- promise 16

    private static void countOfNone() {
        int[] due = {5, 120, 0, 0, 0, 0};
        for (int i = 0; i < due.length; i++) {
            int what = i;
            checks.leaves("count " + what + ", new", BellRanks::new, x -> x.count(what), due[i]);
        }
    }

    private static void countOfTheMost() {
        int[] due = {5, 120, 16, 16, 10, 200};
        for (int i = 0; i < due.length; i++) {
            int what = i;
            checks.leaves("count " + what + ", full", Samples::full, x -> x.count(what), due[i]);
        }
        int[] changes = {2, 6, 24, 120, 720, 5040, 40320};
        for (int bells = 2; bells <= 8; bells++) {
            int many = bells;
            checks.leaves("count 0", () -> Checks.book(many), x -> x.count(0), bells);
            checks.leaves("count 1", () -> Checks.book(many), x -> x.count(1), changes[bells - 2]);
        }
    }

    private static void countOfDifferentOnes() {
        BellRanks x = Checks.book(2);
        int[] due = {1, 2, 2, 2};
        for (int number = 0; number < 4; number++) {
            x.write(number % 2);
            checks.same("different ones", x.count(3), due[number]);
        }
        BellRanks same = Checks.book(8);
        for (int number = 0; number < 16; number++) {
            same.write(40319);
            checks.same("different ones, all the same", same.count(3), 1);
        }
        same.next(15);
        checks.same("different ones, the last one", same.count(3), 2);
        same.next(0);
        checks.same("different ones, the first one too", same.count(3), 2);
    }

    /** "steps that ring() rang in all": neither those that comes() and differ() look at, nor refused ones. */
    private static void countOfStepsRung() {
        BellRanks x = Checks.book(5, 33);
        x.ring(0, 200);
        checks.same("rung without steps", x.count(5), 0);
        x.step(31);
        x.ring(0, 1);
        checks.same("rung one that keeps all", x.count(5), 1);
        x.step(16);
        x.comes(0);
        x.differ(200);
        checks.same("rung by comes and differ", x.count(5), 1);
        Checks.outcome(() -> x.ring(0, 201));
        Checks.outcome(() -> x.ring(1, 5));
        checks.same("rung by refused calls", x.count(5), 1);
        x.ring(0, 200);
        x.clear();
        checks.same("rung in all, cleared", x.count(5), 201);
        x.setBells(2);
        checks.same("rung in all, other bells", x.count(5), 201);
    }

    private static void wrongCount() {
        for (int what : Samples.outside(6)) {
            checks.refuses("count " + what + ", new", BellRanks::new, x -> x.count(what), Checks.INDEX);
            checks.refuses("count " + what + ", full", Samples::full, x -> x.count(what), Checks.INDEX);
        }
    }

    // ---- promise 20

    /** "(this one as well)". */
    private static void adviseItself() {
        checks.leaves("advise, alone", () -> Checks.book(5, 33), x -> x.advise(0), 0);
        checks.leaves("advise, itself", () -> Checks.rows(5, "01234", "12340", "43210"), x -> x.advise(2), 2);
        checks.leaves("advise, itself first", () -> Checks.rows(5, "43210", "12340", "01234"), x -> x.advise(0), 0);
        // 120 behind itself gives 201 with two inversions; the other two give three and two.
        checks.leaves("advise, itself of several", () -> Checks.rows(3, "102", "120", "012"), x -> x.advise(1), 1);
    }

    /** "of several that with the smallest number". */
    private static void adviseTheSmallestNumber() {
        checks.leaves("advise, all the same", () -> Checks.book(4, 9, 9, 9), x -> x.advise(2), 0);
        checks.leaves("advise, the best one twice", () -> Checks.rows(4, "3210", "1230", "3012", "3012"),
            x -> x.advise(1), 2);
        // Behind the rounds 1023 and 0132 both have one inversion.
        checks.leaves("advise, others as good", () -> Checks.rows(4, "3210", "1023", "0132"), x -> x.advise(1), 1);
        checks.leaves("advise, as good the other way", () -> Checks.rows(3, "012", "021", "102"), x -> x.advise(0),
            0);
    }

    private static void adviseFirstAndLast() {
        BellRanks x = Checks.book(5);
        for (int number = 0; number < 15; number++) {
            x.write(119);
        }
        x.write(0);
        checks.same("advise, the first of sixteen", x.advise(0), 0);
        checks.same("advise, the last of sixteen", x.advise(15), 15);
        BellRanks most = Checks.rows(8, "76543210", "01234567");
        // Behind the rounds the greatest one has all inversions, and the rounds have none.
        checks.same("advise, none of all inversions", most.advise(1), 1);
        checks.same("advise, turned round", most.advise(0), 0);
        // Behind the change and not ahead of it: 120, then 021, 102 give 102 and 210.
        checks.leaves("advise, behind", () -> Checks.rows(3, "120", "021", "102"), y -> y.advise(0), 1);
    }

    private static void adviseWithoutSuchAChange() {
        checks.noSuchChange("advise", BellRanks::advise);
    }

    // ---- promise 21

    /** "0 without any". */
    private static void meanOfNone() {
        checks.leaves("mean, new", BellRanks::new, BellRanks::mean, 0.0);
        checks.leaves("mean, with steps alone", () -> Checks.withSteps(new BellRanks(), 1), BellRanks::mean, 0.0);
        checks.leaves("mean, emptied", Samples::emptied, BellRanks::mean, 0.0);
        checks.leaves("mean of the rounds", () -> Checks.book(8, 0), BellRanks::mean, 0.0);
    }

    private static void meanOfOneAndTheMost() {
        checks.leaves("mean of one", () -> Checks.book(8, 40319), BellRanks::mean, 40319.0);
        int[] most = new int[16];
        Arrays.fill(most, 40319);
        checks.leaves("mean of sixteen greatest", () -> Checks.book(8, most), BellRanks::mean, 40319.0);
        checks.leaves("mean of a full book", Samples::full, BellRanks::mean, meanByTelling());
    }

    private static double meanByTelling() {
        BellRanks x = Samples.full();
        double sum = 0;
        for (int number = 0; number < 16; number++) {
            sum += Checks.rankOf(Checks.row(x, number));
        }
        return sum / 16;
    }

    /** "the mean rank of all changes": not cut, and the same changes counted as often as they are there. */
    private static void meanThatIsNotWhole() {
        checks.leaves("mean of 0 and 1", () -> Checks.book(2, 0, 1), BellRanks::mean, 0.5);
        checks.leaves("mean of 1, 1 and 0", () -> Checks.book(2, 1, 1, 0), BellRanks::mean, 2.0 / 3.0);
        checks.leaves("mean of sixteen", () -> Checks.book(2, 1, 0, 0, 0, 0, 0, 0, 0, 0, 0, 0, 0, 0, 0, 0, 0),
            BellRanks::mean, 0.0625);
    }

    // ---- promise 22

    private static void digestOfNone() {
        checks.leaves("digest, new", BellRanks::new, BellRanks::digest, Checks.folded(5, 120, 0, 0, 0, 0));
        checks.leaves("digest, two bells", () -> Checks.book(2), BellRanks::digest, Checks.folded(2, 2, 0, 0, 0, 0));
        checks.leaves("digest, eight bells", () -> Checks.book(8), BellRanks::digest,
            Checks.folded(8, 40320, 0, 0, 0, 0));
        checks.leaves("digest, steps alone", () -> Checks.withSteps(Checks.book(2), 3, 0), BellRanks::digest,
            Checks.folded(2, 2, 0, 0, 2, 0, 3, 0));
        checks.leaves("digest, a change alone", () -> Checks.book(2, 1), BellRanks::digest,
            Checks.folded(2, 2, 1, 1, 0, 0, 1, 1, 1, 1, 2, 2, 0, 1, 1, 0));
    }

    private static void digestInItsOrder() {
        checks.leaves("digest in its order", Samples::used, BellRanks::digest,
            Checks.folded(5, 120, 3, 3, 2, 3,
                33, 4, 0, 1, 5, 5, 0, 4, 1, 2, 3, 4, 0,
                Checks.rankOf("01423"), 2, 0, 3, 3, 3, 2, 0, 0, 1, 4, 2, 3,
                Checks.rankOf("20413"), 4, 0, 1, 5, 5, 0, 1, 2, 0, 4, 1, 3,
                1, 16));
    }

    /** "which wraps around as a 64-bit integer": the numbers without a bound, and of them the lowest 64 bits. */
    private static void digestThatWrapsAround() {
        BellRanks x = Samples.full();
        BigInteger d = BigInteger.valueOf(1579);
        for (int what = 0; what <= 5; what++) {
            d = fold(d, x.count(what));
        }
        for (int change = 0; change < 16; change++) {
            for (int what = 0; what <= 7; what++) {
                d = fold(d, x.told(change, what));
            }
            for (char bell : Checks.row(x, change).toCharArray()) {
                d = fold(d, bell - '0');
            }
        }
        for (int kept : Samples.TEN_STEPS) {
            d = fold(d, kept);
        }
        checks.same("digest is beyond 64 bits", d.bitLength() > 1000, true);
        checks.leaves("digest that wraps around", Samples::full, BellRanks::digest, d.longValue());
    }

    private static BigInteger fold(BigInteger d, int x) {
        return d.multiply(BigInteger.valueOf(31)).add(BigInteger.valueOf(x));
    }
}
