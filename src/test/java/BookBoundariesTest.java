import java.util.List;

/** Each sentence of the terms and of promises 1 to 8 that names a boundary, with the state behind each call. */
public final class BookBoundariesTest {
    private static final Checks checks = new Checks();

    public static void main(String[] args) {
        newObject();
        theLastOf512Calls();
        eachRankOfEachNumberOfBells();
        fewestAndMostBells();
        asManyBellsAsThereWere();
        rungStepsStayWithOtherBells();
        nothingIsLeftOfTheOldBook();
        wrongBells();
        leastAndGreatestRank();
        noChangeOfThisRank();
        theSixteenthAndTheSeventeenth();
        sixteenAgainWithOtherBells();
        theSameChangeTwice();
        firstAndLastNeighbours();
        noNeighbours();
        swapWithoutSuchAChange();
        theGreatestTurnsIntoTheRounds();
        nextWithoutSuchAChange();
        behindItself();
        behindTheRounds();
        theSixteenthMadeBehind();
        behindWithoutSuchAChange();
        behindInAFullBook();
        backOfEachChange();
        backOfTheRounds();
        backWithoutSuchAChange();
        repeatNoneAndOnce();
        repeatUpToTheOrder();
        repeatMostTimes();
        wrongTimes();
        repeatWithoutSuchAChange();
        checks.end();
    }

    // ---- promise 1, and the terms

    /** "Creates five bells, an empty book, and a method without steps." */
    private static void newObject() {
        checks.stands("new", new BellRanks(), "5 120 0 0 0 0;;");
        checks.same("new, mean", new BellRanks().mean(), 0.0);
        checks.refuses("new, told", BellRanks::new, x -> x.told(0, 0), Checks.INDEX);
        checks.refuses("new, kept", BellRanks::new, x -> x.kept(0), Checks.INDEX);
        BellRanks one = new BellRanks();
        one.write(3);
        one.step(1);
        checks.stands("new, beside another one", new BellRanks(), "5 120 0 0 0 0;;");
    }

    /** "An object is used for at most 512 calls": the last one answers as the first one does. */
    private static void theLastOf512Calls() {
        BellRanks x = new BellRanks();
        x.write(33);
        x.step(16);
        for (int call = 3; call < 512; call++) {
            checks.same("ring, call " + call, x.ring(0, 200), 33);
        }
        checks.same("count, call 512", x.count(5), 509 * 200);
    }

    /**
     * "0 for the rounds, n! - 1 for the greatest one", "the one is less that has the lesser bell at the first place
     * where they differ", and next() from each rank to that behind it.
     */
    private static void eachRankOfEachNumberOfBells() {
        for (int bells = 2; bells <= 8; bells++) {
            List<String> all = PlainRanks.all(bells);
            checks.same("changes of " + bells, Checks.book(bells).count(1), all.size());
            for (int from = 0; from < all.size(); from += 16) {
                walk(bells, from, all);
            }
        }
    }

    private static void walk(int bells, int from, List<String> all) {
        BellRanks x = Checks.book(bells);
        for (int i = 0; i < 16 && from + i < all.size(); i++) {
            int rank = from + i;
            checks.same("write " + rank, x.write(rank), i);
            checks.same("rank " + rank, Checks.row(x, i), all.get(rank));
            checks.same("told rank " + rank, x.told(i, 0), rank);
            int next = (rank + 1) % all.size();
            checks.same("next of " + rank, x.next(i), next);
            checks.same("row next of " + rank, Checks.row(x, i), all.get(next));
        }
    }

    // ---- promise 2

    /** "IllegalArgumentException if bells is not 2 to 8": 2 and 8, and all between, are hung. */
    private static void fewestAndMostBells() {
        for (int before = 2; before <= 8; before++) {
            for (int bells = 2; bells <= 8; bells++) {
                int hung = before;
                int now = bells;
                checks.turns("setBells " + now, () -> Checks.book(hung), x -> x.setBells(now), hung,
                    now + " " + Checks.factorial(now) + " 0 0 0 0;;");
            }
        }
    }

    /** "Hangs other bells (or as many as there were): the book and the method are empty then". */
    private static void asManyBellsAsThereWere() {
        checks.turns("setBells, as many", Samples::used, x -> x.setBells(5), 5, "5 120 0 0 0 3;;");
        checks.turns("setBells, as many, full", Samples::full, x -> x.setBells(5), 5, "5 120 0 0 0 200;;");
        checks.turns("setBells, as many, new", BellRanks::new, x -> x.setBells(5), 5, "5 120 0 0 0 0;;");
    }

    /** "how many steps were rung in all stays". */
    private static void rungStepsStayWithOtherBells() {
        checks.turns("setBells 2, used", Samples::used, x -> x.setBells(2), 5, "2 2 0 0 0 3;;");
        checks.turns("setBells 8, full", Samples::full, x -> x.setBells(8), 5, "8 40320 0 0 0 200;;");
        BellRanks x = Samples.used();
        x.setBells(3);
        Checks.withSteps(x, 1).write(0);
        checks.same("rung with other bells", x.ring(0, 2), 0);
        checks.same("rung in all", x.count(5), 5);
    }

    private static void nothingIsLeftOfTheOldBook() {
        BellRanks x = Samples.full();
        x.setBells(8);
        x.setBells(5);
        checks.fails("the old change 0", Checks.INDEX, () -> x.told(0, 0));
        checks.fails("the old step 0", Checks.INDEX, () -> x.kept(0));
        checks.same("write then", x.write(1), 0);
        checks.same("step then", x.step(16), 1);
        checks.stands("written anew", x, "5 120 1 1 1 200; 01243; 16");
    }

    /** "IllegalArgumentException if bells is not 2 to 8", and it changes nothing. */
    private static void wrongBells() {
        for (int bells : new int[] {1, 9, 0, -1, -5, 10, Integer.MIN_VALUE, Integer.MAX_VALUE}) {
            checks.refuses("setBells " + bells, BellRanks::new, x -> x.setBells(bells), Checks.ARGUMENT);
            checks.refuses("setBells " + bells + ", used", Samples::used, x -> x.setBells(bells), Checks.ARGUMENT);
            checks.refuses("setBells " + bells + ", full", Samples::full, x -> x.setBells(bells), Checks.ARGUMENT);
        }
    }

    // ---- promise 3

    private static void leastAndGreatestRank() {
        for (int bells = 2; bells <= 8; bells++) {
            String rounds = "01234567".substring(0, bells);
            String greatest = new StringBuilder(rounds).reverse().toString();
            int many = bells;
            int changes = Checks.factorial(bells);
            String counts = bells + " " + changes + " 1 1 0 0; ";
            checks.turns("write 0", () -> Checks.book(many), x -> x.write(0), 0, counts + rounds + ";");
            checks.turns("write the greatest", () -> Checks.book(many), x -> x.write(changes - 1), 0,
                counts + greatest + ";");
        }
    }

    /** "IndexOutOfBoundsException if there is no change of this rank": n! is the first one above. */
    private static void noChangeOfThisRank() {
        for (int bells = 2; bells <= 8; bells++) {
            int many = bells;
            for (int rank : Samples.outside(Checks.factorial(bells))) {
                checks.refuses("write " + rank + " of " + bells, () -> Checks.book(many, 1, 0), x -> x.write(rank),
                    Checks.INDEX);
            }
        }
    }

    /** "It holds at most 16 changes, numbered from 0 in the order of writing", "if there are 16". */
    private static void theSixteenthAndTheSeventeenth() {
        BellRanks x = Checks.book(4);
        for (int number = 0; number < 16; number++) {
            checks.same("write, number " + number, x.write(23 - number), number);
        }
        for (int number = 0; number < 16; number++) {
            checks.same("rank of number " + number, x.told(number, 0), 23 - number);
        }
        checks.same("sixteen", x.count(2), 16);
        checks.refuses("write the 17th", Samples::full, y -> y.write(0), Checks.STATE);
        checks.refuses("write the 17th, the greatest", Samples::full, y -> y.write(119), Checks.STATE);
        for (int rank : Samples.outside(120)) {
            checks.refuses("write the 17th of no rank " + rank, Samples::full, y -> y.write(rank), Checks.INDEX);
        }
    }

    private static void sixteenAgainWithOtherBells() {
        BellRanks x = Samples.full();
        x.setBells(2);
        for (int number = 0; number < 16; number++) {
            checks.same("write again, number " + number, x.write(number % 2), number);
        }
        checks.fails("write the 17th again", Checks.STATE, () -> x.write(0));
        checks.same("sixteen again", x.count(2), 16);
    }

    private static void theSameChangeTwice() {
        checks.turns("write what is there", () -> Checks.book(3, 4), x -> x.write(4), 1, "3 6 2 1 0 0; 201 201;");
    }

    // ---- promise 4

    /** "place is not 0 to 2 less than the number of bells": both of these are places of a first neighbour. */
    private static void firstAndLastNeighbours() {
        for (int bells = 2; bells <= 8; bells++) {
            int many = bells;
            String rounds = "01234567".substring(0, bells);
            String counts = bells + " " + Checks.factorial(bells) + " 2 2 0 0; ";
            String first = "10" + rounds.substring(2);
            String last = rounds.substring(0, bells - 2) + rounds.charAt(bells - 1) + rounds.charAt(bells - 2);
            checks.turns("swap 0", () -> Checks.rows(many, rounds, last), x -> x.swap(0, 0), Checks.rankOf(first),
                counts.replace("2 2 0 0;", bells == 2 ? "2 1 0 0;" : "2 2 0 0;") + first + " " + last + ";");
            checks.turns("swap the last ones", () -> Checks.rows(many, last, last), x -> x.swap(1, many - 2), 0,
                counts + last + " " + rounds + ";");
        }
        checks.turns("swap in the midst", Samples::used, x -> x.swap(1, 2), Checks.rankOf("01243"),
            "5 120 3 3 2 3; 12340 01243 20413; 1 16");
    }

    private static void noNeighbours() {
        for (int bells = 2; bells <= 8; bells++) {
            int many = bells;
            for (int place : Samples.outside(bells - 1)) {
                checks.refuses("swap " + place + " of " + bells, () -> Checks.book(many, 0, 1), x -> x.swap(1, place),
                    Checks.INDEX);
            }
        }
        BellRanks x = Checks.book(8, 0);
        x.setBells(3);
        x.write(0);
        checks.fails("swap 2 of three that were eight", Checks.INDEX, () -> x.swap(0, 2));
        checks.stands("swap 2 of three that were eight", x, "3 6 1 1 0 0; 012;");
    }

    private static void swapWithoutSuchAChange() {
        checks.noSuchChange("swap", (x, change) -> x.swap(change, 0));
        checks.noSuchChange("swap, no place either", (x, change) -> x.swap(change, -1));
    }

    // ---- promise 5

    /** "the greatest one into the rounds". */
    private static void theGreatestTurnsIntoTheRounds() {
        for (int bells = 2; bells <= 8; bells++) {
            int many = bells;
            int greatest = Checks.factorial(bells) - 1;
            String rounds = "01234567".substring(0, bells);
            checks.turns("next of the greatest of " + bells, () -> Checks.book(many, greatest), x -> x.next(0), 0,
                many + " " + (greatest + 1) + " 1 1 0 0; " + rounds + ";");
            checks.turns("next of the last but one of " + bells, () -> Checks.book(many, greatest - 1),
                x -> x.next(0), greatest,
                many + " " + (greatest + 1) + " 1 1 0 0; " + new StringBuilder(rounds).reverse() + ";");
        }
        checks.turns("next of the midst", Samples::used, x -> x.next(1), Checks.rankOf("01432"),
            "5 120 3 3 2 3; 12340 01432 20413; 1 16");
    }

    private static void nextWithoutSuchAChange() {
        checks.noSuchChange("next", BellRanks::next);
    }

    // ---- promise 6

    private static void behindItself() {
        checks.turns("behind itself", Samples::used, x -> x.behind(0, 0), 3,
            "5 120 4 4 2 3; 12340 01423 20413 23401; 1 16");
    }

    private static void behindTheRounds() {
        checks.turns("the rounds behind it", () -> Checks.rows(4, "2031", "0123"), x -> x.behind(0, 1), 2,
            "4 24 3 2 0 0; 2031 0123 2031;");
        checks.turns("behind the rounds", () -> Checks.rows(4, "2031", "0123"), x -> x.behind(1, 0), 2,
            "4 24 3 2 0 0; 2031 0123 2031;");
        // "at each place the bell which a has at the place whose number is that of the bell of b there"
        checks.turns("a, then b", () -> Checks.rows(4, "2031", "1023"), x -> x.behind(0, 1), 2,
            "4 24 3 3 0 0; 2031 1023 0231;");
        checks.turns("b, then a", () -> Checks.rows(4, "2031", "1023"), x -> x.behind(1, 0), 2,
            "4 24 3 3 0 0; 2031 1023 2130;");
    }

    private static void theSixteenthMadeBehind() {
        BellRanks x = Checks.rows(3, "120");
        String[] due = {"120", "201", "012"};
        for (int number = 1; number < 16; number++) {
            checks.same("behind, number " + number, x.behind(number - 1, 0), number);
            checks.same("behind, row " + number, Checks.row(x, number), due[number % 3]);
        }
        checks.same("sixteen made behind", x.count(2), 16);
        checks.fails("a 17th made behind", Checks.STATE, () -> x.behind(15, 0));
        checks.same("still sixteen", x.count(2), 16);
    }

    private static void behindWithoutSuchAChange() {
        checks.noSuchChange("behind, a", (x, change) -> x.behind(change, 0));
        checks.noSuchChange("behind, b", (x, change) -> x.behind(0, change));
        checks.noSuchChange("behind, both", (x, change) -> x.behind(change, change));
    }

    /** "IllegalStateException if there are 16", and of several exceptions the one named first. */
    private static void behindInAFullBook() {
        checks.refuses("behind, full", Samples::full, x -> x.behind(0, 15), Checks.STATE);
        checks.refuses("behind itself, full", Samples::full, x -> x.behind(3, 3), Checks.STATE);
        for (int change : Samples.outside(16)) {
            checks.refuses("behind, full, a " + change, Samples::full, x -> x.behind(change, 0), Checks.INDEX);
            checks.refuses("behind, full, b " + change, Samples::full, x -> x.behind(0, change), Checks.INDEX);
        }
    }

    // ---- promise 7

    /** "the one which, made behind it, would give the rounds". */
    private static void backOfEachChange() {
        for (int bells = 2; bells <= 8; bells++) {
            int changes = Checks.factorial(bells);
            for (int rank = 0; rank < changes; rank += bells < 7 ? 1 : 37) {
                BellRanks x = Checks.book(bells, rank, rank);
                int back = x.back(1);
                checks.same("back of " + rank, x.told(x.behind(0, 1), 0), 0);
                checks.same("back of " + rank + ", its rank", x.told(1, 0), back);
                checks.same("back of " + rank + ", the other one", x.told(0, 0), rank);
                checks.same("back of back of " + rank, x.back(1), rank);
            }
        }
    }

    private static void backOfTheRounds() {
        checks.leaves("back of the rounds", () -> Checks.rows(5, "01234", "12340"), x -> x.back(0), 0);
        checks.leaves("back of the greatest", () -> Checks.rows(5, "43210", "12340"), x -> x.back(0), 119);
        checks.turns("back of a ring", Samples::used, x -> x.back(0), Checks.rankOf("40123"),
            "5 120 3 3 2 3; 40123 01423 20413; 1 16");
    }

    private static void backWithoutSuchAChange() {
        checks.noSuchChange("back", BellRanks::back);
    }

    // ---- promise 8

    /** "how often: 0 for the rounds, 1 for itself". */
    private static void repeatNoneAndOnce() {
        checks.turns("repeat 0", Samples::used, x -> x.repeat(0, 0), 0,
            "5 120 3 3 2 3; 01234 01423 20413; 1 16");
        checks.leaves("repeat 1", Samples::used, x -> x.repeat(0, 1), 33);
        checks.leaves("repeat 0 of the rounds", () -> Checks.book(2, 0), x -> x.repeat(0, 0), 0);
        checks.leaves("repeat 1 of the greatest", () -> Checks.book(8, 40319), x -> x.repeat(0, 1), 40319);
    }

    private static void repeatUpToTheOrder() {
        // 12045673: a ring of three and one of five, so that the order is 15.
        for (int times = 0; times <= 31; times++) {
            int often = times;
            StringBuilder due = new StringBuilder();
            for (int place = 0; place < 8; place++) {
                due.append(place < 3 ? (place + times) % 3 : 3 + (place - 3 + times) % 5);
            }
            checks.turns("repeat " + times, () -> Checks.rows(8, "12045673"), x -> x.repeat(0, often),
                Checks.rankOf(due.toString()), "8 40320 1 1 0 0; " + due + ";");
        }
    }

    /** "if times is not 0 to 9999": 9999 is the last one. */
    private static void repeatMostTimes() {
        // 9999 is 9 more than a multiple of 15: ring of three as at 0, ring of five as at 4, which is turned back.
        checks.turns("repeat 9999", () -> Checks.rows(8, "12045673", "12045673"), x -> x.repeat(0, 9999),
            Checks.rankOf("01273456"), "8 40320 2 2 0 0; 01273456 12045673;");
        checks.leaves("repeat 9999 of the rounds", () -> Checks.book(5, 0), x -> x.repeat(0, 9999), 0);
        checks.leaves("repeat 9999 of two", () -> Checks.book(2, 1), x -> x.repeat(0, 9999), 1);
        checks.turns("repeat 9998 of two", () -> Checks.book(2, 1), x -> x.repeat(0, 9998), 0, "2 2 1 1 0 0; 01;");
    }

    private static void wrongTimes() {
        for (int times : Samples.outside(10000)) {
            checks.refuses("repeat " + times, Samples::used, x -> x.repeat(0, times), Checks.ARGUMENT);
            checks.refuses("repeat " + times + ", full", Samples::full, x -> x.repeat(15, times), Checks.ARGUMENT);
        }
    }

    private static void repeatWithoutSuchAChange() {
        checks.noSuchChange("repeat", (x, change) -> x.repeat(change, 0));
        checks.noSuchChange("repeat, wrong times", (x, change) -> x.repeat(change, -1));
        checks.noSuchChange("repeat, too many times", (x, change) -> x.repeat(change, 10000));
    }
}
