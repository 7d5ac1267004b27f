/** Each sentence of promises 9 to 11 and 17 to 19 that names a boundary, with the state behind each call. */
public final class MethodBoundariesTest {
    /** The rounds of four, rung by the steps 0, 9 and 12 till they come round. */
    private static final String[] ROUND =
        {"0123", "1032", "1302", "3102", "1320", "1230", "2130", "1203", "1023", "0123"};

    private static final Checks checks = new Checks();

    public static void main(String[] args) {
        eachStepOfEachNumberOfBells();
        allPlacesKept();
        noPlaceKept();
        notPairsOfNeighbours();
        noSuchPlaceKept();
        theTenthAndTheEleventhStep();
        theEleventhStepThatIsNone();
        clearOfNone();
        clearOfTen();
        ringWithoutSteps();
        ringOneAndTheMost();
        ringRoundTheMethod();
        ringFromTheFirstStepAgain();
        ringOfTheFewestBells();
        wrongStepsRung();
        ringWithoutSuchAChange();
        firstAndLastStepKept();
        noSuchStep();
        comesWithoutSteps();
        comesByOneStepAtLeast();
        comesInTheMidstOfTheMethod();
        comesFromTheFirstStep();
        comesLatest();
        comesWithoutSuchAChange();
        differWithoutSteps();
        differOneAndTheMost();
        differCountsTheRounds();
        differAgain();
        wrongStepsToDiffer();
        checks.end();
    }

    // ---- promise 9

    /** Kept places and pairs, each by its signs, from the place 0 on; all that is no such row is refused. */
    private static void eachStepOfEachNumberOfBells() {
        for (int bells = 2; bells <= 8; bells++) {
            int many = bells;
            int changes = Checks.factorial(bells);
            for (int kept = -3; kept < 2 << bells; kept++) {
                int tried = kept;
                if (kept >= 0 && kept < 1 << bells && signs(bells, kept).matches("(x|oo)*")) {
                    checks.turns("step " + kept + " of " + bells, () -> Checks.book(many), x -> x.step(tried), 1,
                        bells + " " + changes + " 0 0 1 0;; " + kept);
                } else {
                    checks.refuses("step " + kept + " of " + bells, () -> Checks.book(many), x -> x.step(tried),
                        Checks.ARGUMENT);
                }
            }
        }
    }

    private static String signs(int bells, int kept) {
        StringBuilder signs = new StringBuilder();
        for (int place = 0; place < bells; place++) {
            signs.append((kept & 1 << place) != 0 ? 'x' : 'o');
        }
        return signs.toString();
    }

    /** "all may be kept". */
    private static void allPlacesKept() {
        for (int bells = 2; bells <= 8; bells++) {
            BellRanks x = Checks.book(bells, 1);
            checks.same("step, all kept", x.step(Samples.all(bells)), 1);
            checks.same("ring, all kept", x.ring(0, 7), 1);
            checks.same("kept, all", x.kept(0), Samples.all(bells));
            checks.same("rung, all kept", x.count(5), 7);
        }
    }

    /** An even number of places are pairs; of an odd one the last place has no neighbour left. */
    private static void noPlaceKept() {
        for (int bells = 2; bells <= 8; bells++) {
            int many = bells;
            if (bells % 2 == 0) {
                checks.turns("step 0 of " + bells, () -> Checks.book(many), x -> x.step(0), 1,
                    bells + " " + Checks.factorial(bells) + " 0 0 1 0;; 0");
            } else {
                checks.refuses("step 0 of " + bells, () -> Checks.book(many), x -> x.step(0), Checks.ARGUMENT);
            }
        }
    }

    private static void notPairsOfNeighbours() {
        // One place alone, first, in the midst, last; three in a row; two that are no neighbours.
        for (int kept : new int[] {30, 27, 15, 3, 24, 17, 21, 10, 22, 13}) {
            checks.refuses("step " + kept, Samples::used, x -> x.step(kept), Checks.ARGUMENT);
        }
    }

    /** "if kept is less than 0, or has a place that there is not": with and without a good step below it. */
    private static void noSuchPlaceKept() {
        for (int bells = 2; bells <= 8; bells++) {
            int many = bells;
            for (int place = bells; place < 32; place++) {
                int alone = 1 << place;
                int above = alone | Samples.all(bells);
                checks.refuses("step " + alone, () -> Checks.book(many, 1), x -> x.step(alone), Checks.ARGUMENT);
                checks.refuses("step " + above, () -> Checks.book(many, 1), x -> x.step(above), Checks.ARGUMENT);
            }
        }
        for (int kept : new int[] {-1, -31, -32, Integer.MIN_VALUE, Integer.MIN_VALUE + 31, Integer.MAX_VALUE}) {
            checks.refuses("step " + kept, Samples::used, x -> x.step(kept), Checks.ARGUMENT);
        }
        BellRanks x = Checks.book(8);
        x.setBells(5);
        checks.fails("a place of the eight before", Checks.ARGUMENT, () -> x.step(63));
        checks.stands("a place of the eight before", x, "5 120 0 0 0 0;;");
    }

    /** "a row of at most 10 steps", "if it has 10". */
    private static void theTenthAndTheEleventhStep() {
        BellRanks x = new BellRanks();
        for (int i = 0; i < 10; i++) {
            checks.same("step " + i, x.step(Samples.TEN_STEPS[i]), i + 1);
        }
        checks.stands("ten steps", x, "5 120 0 0 10 0;; 1 16 4 31 7 28 19 25 4 16");
        checks.refuses("the 11th step", Samples::full, y -> y.step(1), Checks.STATE);
        checks.refuses("the 11th step, all kept", Samples::full, y -> y.step(31), Checks.STATE);
        checks.same("clear of ten", x.clear(), 10);
        checks.same("step then", x.step(4), 1);
    }

    private static void theEleventhStepThatIsNone() {
        for (int kept : new int[] {0, -1, 2, 32, 63, Integer.MIN_VALUE, Integer.MAX_VALUE}) {
            checks.refuses("the 11th step, " + kept, Samples::full, x -> x.step(kept), Checks.ARGUMENT);
        }
    }

    // ---- promise 10

    private static void clearOfNone() {
        checks.leaves("clear of none", BellRanks::new, BellRanks::clear, 0);
        checks.leaves("clear of none, with changes", () -> Checks.book(8, 1, 40319), BellRanks::clear, 0);
    }

    /** "Takes all steps away": the book stays, and so does what was rung. */
    private static void clearOfTen() {
        checks.turns("clear of two", Samples::used, BellRanks::clear, 2,
            "5 120 3 3 0 3; 12340 01423 20413;");
        BellRanks x = Samples.full();
        String before = Checks.state(x);
        checks.same("clear of ten", x.clear(), 10);
        checks.stands("clear of ten", x, before.replace(" 16 16 10 200;", " 16 16 0 200;")
            .replace("; 1 16 4 31 7 28 19 25 4 16", ";"));
        checks.same("clear again", x.clear(), 0);
        for (int i = 0; i < 10; i++) {
            checks.same("step again " + i, x.step(31), i + 1);
        }
        checks.fails("the 11th step again", Checks.STATE, () -> x.step(31));
    }

    // ---- promise 11

    /** "Without steps nothing is rung", "without steps as it was". */
    private static void ringWithoutSteps() {
        for (int steps : new int[] {1, 2, 200}) {
            checks.leaves("ring without steps", () -> Checks.book(5, 33, 7), x -> x.ring(0, steps), 33);
            checks.leaves("ring without steps, cleared", () -> cleared(Samples.used()), x -> x.ring(0, steps), 33);
        }
        for (int steps : Samples.outside(201)) {
            checks.refuses("ring without steps, " + steps, () -> Checks.book(5, 33), x -> x.ring(0, steps),
                Checks.ARGUMENT);
        }
        checks.refuses("ring without steps, 0", () -> Checks.book(5, 33), x -> x.ring(0, 0), Checks.ARGUMENT);
    }

    private static BellRanks cleared(BellRanks x) {
        x.clear();
        return x;
    }

    /** "if steps is not 1 to 200": both of these are rung. */
    private static void ringOneAndTheMost() {
        checks.turns("ring 1", Samples::used, x -> x.ring(0, 1), Checks.rankOf("13204"),
            "5 120 3 3 2 4; 13204 01423 20413; 1 16");
        checks.turns("ring 200", Samples::used, x -> x.ring(0, 200), 33,
            "5 120 3 3 2 203; 12340 01423 20413; 1 16");
        checks.turns("ring 199", Samples::used, x -> x.ring(0, 199), Checks.rankOf("21430"),
            "5 120 3 3 2 202; 21430 01423 20413; 1 16");
        checks.turns("ring 200 by one step", () -> Checks.withSteps(Checks.rows(3, "012"), 4), x -> x.ring(0, 200), 0,
            "3 6 1 1 1 200; 012; 4");
        checks.turns("ring 199 by one step", () -> Checks.withSteps(Checks.rows(3, "012"), 4), x -> x.ring(0, 199), 2,
            "3 6 1 1 1 199; 102; 4");
    }

    /** "its steps, one by one, from the first on, and again from the first one behind the last one". */
    private static void ringRoundTheMethod() {
        for (int steps = 1; steps < ROUND.length; steps++) {
            int many = steps;
            checks.turns("ring " + steps, MethodBoundariesTest::three, x -> x.ring(0, many),
                Checks.rankOf(ROUND[steps]), "4 24 1 1 3 " + steps + "; " + ROUND[steps] + "; 0 9 12");
        }
        BellRanks ten = Checks.withSteps(Checks.rows(8, "01234567"), Samples.LONGEST);
        checks.same("ring ten steps", ten.ring(0, 10), Checks.rankOf("15046732"));
        BellRanks eleven = Checks.withSteps(Checks.rows(8, "01234567"), Samples.LONGEST);
        // The first step keeps the places 2, 5, 6 and 7.
        checks.same("ring eleven steps", eleven.ring(0, 11), Checks.rankOf("51064732"));
    }

    private static BellRanks three() {
        return Checks.withSteps(Checks.rows(4, "0123"), 0, 9, 12);
    }

    /** "Rings a change on by the method, from its first step on": whatever was rung before. */
    private static void ringFromTheFirstStepAgain() {
        BellRanks x = three();
        checks.same("ring 1", x.ring(0, 1), Checks.rankOf("1032"));
        checks.same("ring 1 again", x.ring(0, 1), 0);
        checks.same("ring 2", x.ring(0, 2), Checks.rankOf("1302"));
        checks.same("ring 1 then", x.ring(0, 1), Checks.rankOf("3120"));
        x.write(0);
        checks.same("ring another one", x.ring(1, 2), Checks.rankOf("1302"));
        checks.stands("rung again and again", x, "4 24 2 2 3 7; 3120 1302; 0 9 12");
    }

    private static void ringOfTheFewestBells() {
        checks.turns("ring 1 of two", () -> Checks.withSteps(Checks.rows(2, "01"), 0, 3), x -> x.ring(0, 1), 1,
            "2 2 1 1 2 1; 10; 0 3");
        checks.turns("ring 2 of two", () -> Checks.withSteps(Checks.rows(2, "01"), 0, 3), x -> x.ring(0, 2), 1,
            "2 2 1 1 2 2; 10; 0 3");
        checks.turns("ring 3 of two", () -> Checks.withSteps(Checks.rows(2, "01"), 0, 3), x -> x.ring(0, 3), 0,
            "2 2 1 1 2 3; 01; 0 3");
    }

    private static void wrongStepsRung() {
        for (int steps : new int[] {0, -1, 201, 202, -200, Integer.MAX_VALUE, Integer.MIN_VALUE}) {
            checks.refuses("ring " + steps, Samples::used, x -> x.ring(0, steps), Checks.ARGUMENT);
            checks.refuses("ring " + steps + ", full", Samples::full, x -> x.ring(15, steps), Checks.ARGUMENT);
        }
    }

    private static void ringWithoutSuchAChange() {
        checks.noSuchChange("ring 1", (x, change) -> x.ring(change, 1));
        checks.noSuchChange("ring 0", (x, change) -> x.ring(change, 0));
        checks.noSuchChange("ring 201", (x, change) -> x.ring(change, 201));
        checks.refuses("ring without steps, no such change", () -> Checks.book(5, 33), x -> x.ring(1, 1),
            Checks.INDEX);
        checks.refuses("ring 0 without steps, no such change", () -> Checks.book(5, 33), x -> x.ring(1, 0),
            Checks.INDEX);
    }

    // ---- promise 17

    private static void firstAndLastStepKept() {
        checks.leaves("kept, the first", Samples::used, x -> x.kept(0), 1);
        checks.leaves("kept, the last", Samples::used, x -> x.kept(1), 16);
        for (int i = 0; i < 10; i++) {
            int number = i;
            checks.leaves("kept " + i + " of ten", Samples::full, x -> x.kept(number), Samples.TEN_STEPS[i]);
        }
        checks.leaves("kept of two bells", () -> Checks.withSteps(Checks.book(2), 0, 3), x -> x.kept(0), 0);
        checks.leaves("kept of eight bells", () -> Checks.withSteps(Checks.book(8), 255), x -> x.kept(0), 255);
    }

    /** "IndexOutOfBoundsException if there is no such step": none, some, the most, and none again. */
    private static void noSuchStep() {
        Checks.Maker[] makers = {BellRanks::new, Samples::used, Samples::full, () -> cleared(Samples.full()),
            () -> Checks.book(5, 1, 2, 3)};
        for (Checks.Maker maker : makers) {
            int length = maker.made().count(4);
            for (int number : Samples.outside(length)) {
                checks.refuses("kept " + number + " of " + length, maker, x -> x.kept(number), Checks.INDEX);
            }
        }
        BellRanks x = Samples.full();
        x.setBells(5);
        checks.fails("kept with other bells", Checks.INDEX, () -> x.kept(0));
    }

    // ---- promise 18

    /** "-1 if not by then, or without steps (nothing is changed)". */
    private static void comesWithoutSteps() {
        checks.leaves("comes without steps", () -> Checks.book(5, 33, 0), x -> x.comes(0), -1);
        checks.leaves("comes without steps, the rounds", () -> Checks.book(5, 33, 0), x -> x.comes(1), -1);
        checks.leaves("comes without steps, cleared", () -> cleared(Samples.used()), x -> x.comes(2), -1);
    }

    /** "by how many steps of the method, 1 or more": the steps that it has not rung yet don't count. */
    private static void comesByOneStepAtLeast() {
        checks.leaves("comes, all kept", () -> Checks.withSteps(Checks.book(5, 33), 31), x -> x.comes(0), 1);
        checks.leaves("comes, all kept first", () -> Checks.withSteps(Checks.book(5, 33), 31, 1, 16),
            x -> x.comes(0), 1);
        checks.leaves("comes, one step", () -> Checks.withSteps(Checks.book(5, 33), 16), x -> x.comes(0), 2);
        checks.leaves("comes, one step of two", () -> Checks.withSteps(Checks.book(2, 1), 0), x -> x.comes(0), 2);
    }

    /** "itself again for the first time (looked at behind each single step)". */
    private static void comesInTheMidstOfTheMethod() {
        checks.leaves("comes by two of three", () -> Checks.withSteps(Checks.book(5, 33), 16, 16, 1),
            x -> x.comes(0), 2);
        checks.leaves("comes by four of ten",
            () -> Checks.withSteps(Checks.book(5, 7), 16, 1, 1, 16, 4, 4, 4, 4, 4, 4), x -> x.comes(0), 4);
        checks.leaves("comes by the whole method", () -> Checks.withSteps(Checks.book(5, 7), 16, 1, 4, 4, 1, 16),
            x -> x.comes(0), 6);
        checks.leaves("comes by three times the method", MethodBoundariesTest::three, x -> x.comes(0), 9);
    }

    /** "if it was rung on from the first step": whatever was rung before. */
    private static void comesFromTheFirstStep() {
        BellRanks x = Checks.withSteps(Checks.book(4, 0), 15, 0, 9);
        for (int call = 0; call < 4; call++) {
            checks.same("comes by the first step " + call, x.comes(0), 1);
            x.ring(0, call + 1);
        }
        checks.leaves("comes, the first one", Samples::used, y -> y.comes(0), 10);
        checks.leaves("comes, the last one", Samples::full, y -> y.comes(15), rungTillRound());
    }

    /** By ringing 1, 2 and more steps on new objects, till the last change is itself again. */
    private static int rungTillRound() {
        for (int steps = 1; steps <= 200; steps++) {
            BellRanks x = Samples.full();
            int rank = x.told(15, 0);
            if (x.ring(15, steps) == rank) {
                return steps;
            }
        }
        return -1;
    }

    /**
     * "at most 400": ten steps whose change has the order 15 make the longest way, of 150 steps. So the bound is
     * never reached, and with steps -1 is never answered.
     */
    private static void comesLatest() {
        checks.leaves("comes by 150", () -> Checks.withSteps(Checks.book(8, 0, 33333), Samples.LONGEST),
            x -> x.comes(0), 150);
        checks.leaves("comes by 150 from elsewhere",
            () -> Checks.withSteps(Checks.book(8, 0, 33333), Samples.LONGEST), x -> x.comes(1), 150);
    }

    private static void comesWithoutSuchAChange() {
        checks.noSuchChange("comes", BellRanks::comes);
        checks.refuses("comes without steps, no such change", () -> Checks.book(5, 33), x -> x.comes(1),
            Checks.INDEX);
    }

    // ---- promise 19

    /** "1 without steps (nothing is changed)". */
    private static void differWithoutSteps() {
        for (int steps : new int[] {1, 2, 200}) {
            checks.leaves("differ without steps", () -> Checks.book(5, 33, 7), x -> x.differ(steps), 1);
            checks.leaves("differ without steps, new", BellRanks::new, x -> x.differ(steps), 1);
            checks.leaves("differ without steps, cleared", () -> cleared(Samples.used()), x -> x.differ(steps), 1);
        }
        for (int steps : new int[] {0, -1, 201, Integer.MAX_VALUE, Integer.MIN_VALUE}) {
            checks.refuses("differ without steps, " + steps, BellRanks::new, x -> x.differ(steps), Checks.ARGUMENT);
        }
    }

    /** "how many steps, 1 to 200". */
    private static void differOneAndTheMost() {
        checks.leaves("differ 1", Samples::used, x -> x.differ(1), 2);
        checks.leaves("differ 200", Samples::used, x -> x.differ(200), 10);
        checks.leaves("differ 1, all kept", () -> Checks.withSteps(Checks.book(5), 31), x -> x.differ(1), 1);
        checks.leaves("differ 200, all kept", () -> Checks.withSteps(Checks.book(5), 31), x -> x.differ(200), 1);
        checks.leaves("differ 200 of two", () -> Checks.withSteps(Checks.book(2), 0), x -> x.differ(200), 2);
        // What comes round by 150 steps has 150 different changes, the rounds among them.
        for (int steps : new int[] {1, 2, 99, 148, 149, 150, 151, 199, 200}) {
            checks.leaves("differ " + steps + ", the longest",
                () -> Checks.withSteps(Checks.book(8), Samples.LONGEST), x -> x.differ(steps),
                Math.min(steps + 1, 150));
        }
    }

    /** "among the rounds and those behind each of so many steps": the book has no part in it. */
    private static void differCountsTheRounds() {
        for (int steps = 1; steps < ROUND.length; steps++) {
            int many = steps;
            checks.leaves("differ " + steps + ", nine round", MethodBoundariesTest::three, x -> x.differ(many),
                Math.min(steps + 1, 9));
        }
        checks.leaves("differ where changes come again",
            () -> Checks.withSteps(Checks.book(5, 33, 33, 7), 16, 16, 1), x -> x.differ(3), 3);
        checks.leaves("differ with a full book", () -> Checks.withSteps(cleared(Samples.full()), 16),
            x -> x.differ(200), 2);
    }

    /** "(nothing is changed)": what one call found has no part in the next one. */
    private static void differAgain() {
        BellRanks x = three();
        checks.same("differ 200", x.differ(200), 9);
        checks.same("differ 200 again", x.differ(200), 9);
        checks.same("differ 1 then", x.differ(1), 2);
        x.clear();
        checks.same("differ then, without steps", x.differ(200), 1);
        x.step(0);
        checks.same("differ then, another step", x.differ(200), 2);
    }

    private static void wrongStepsToDiffer() {
        for (int steps : new int[] {0, -1, 201, 202, -200, Integer.MAX_VALUE, Integer.MIN_VALUE}) {
            checks.refuses("differ " + steps, Samples::used, x -> x.differ(steps), Checks.ARGUMENT);
            checks.refuses("differ " + steps + ", full", Samples::full, x -> x.differ(steps), Checks.ARGUMENT);
        }
    }
}
