/** Changes of bells: a book of changes, a method of steps, and what can be told of them. */
public final class BellRanks {
    private static final int LEAST_BELLS = 2;
    private static final int MOST_BELLS = 8;
    private static final int FIRST_BELLS = 5;
    private static final int MOST_CHANGES = 16;
    private static final int MOST_STEPS = 10;
    private static final int MOST_TIMES = 9999;
    private static final int MOST_RUNG = 200;
    private static final int MOST_LOOKED_AT = 400;
    private static final int COUNTS = 6;
    private static final int TELLINGS = 8;
    private static final long DIGEST_START = 1579L;
    private static final long DIGEST_FACTOR = 31L;

    private final Change[] book;
    private final Method method;
    // These three are made once and written anew by each call that needs them.
    private final Change rung;
    private final Change made;
    private final RankSet ranks;
    private int bells;
    private int written;
    private int rungInAll;

    public BellRanks() {
        book = new Change[MOST_CHANGES];
        for (int i = 0; i < book.length; i++) {
            book[i] = new Change();
        }
        method = new Method();
        rung = new Change();
        made = new Change();
        ranks = new RankSet();
        bells = FIRST_BELLS;
        written = 0;
        rungInAll = 0;
    }

    // ---- the book

    public int setBells(int bells) throws IllegalArgumentException {
        if (bells < LEAST_BELLS || bells > MOST_BELLS) {
            throw new IllegalArgumentException("bells is not 2 to 8");
        }
        int before = this.bells;
        this.bells = bells;
        written = 0;
        method.removeAll();
        return before;
    }

    public int write(int rank) throws IndexOutOfBoundsException, IllegalStateException {
        if (rank < 0 || rank >= changesOf(bells)) {
            throw new IndexOutOfBoundsException("no change of this rank");
        }
        Change change = openPage();
        change.setRank(bells, rank);
        return written - 1;
    }

    public int swap(int change, int place) throws IndexOutOfBoundsException {
        Change swapped = find(change);
        if (place < 0 || place > bells - 2) {
            throw new IndexOutOfBoundsException("no neighbours at this place");
        }
        swapped.exchange(place);
        return swapped.rank();
    }

    public int next(int change) throws IndexOutOfBoundsException {
        Change turned = find(change);
        int rank = turned.rank() + 1;
        if (rank >= changesOf(bells)) {
            rank = 0;
        }
        turned.setRank(bells, rank);
        return rank;
    }

    public int behind(int a, int b) throws IndexOutOfBoundsException, IllegalStateException {
        Change first = find(a);
        Change second = find(b);
        Change change = openPage();
        change.setBehind(first, second);
        return written - 1;
    }

    public int back(int change) throws IndexOutOfBoundsException {
        Change turned = find(change);
        made.setBack(turned);
        turned.setCopy(made);
        return turned.rank();
    }

    public int repeat(int change, int times) throws IndexOutOfBoundsException, IllegalArgumentException {
        Change repeated = find(change);
        if (times < 0 || times > MOST_TIMES) {
            throw new IllegalArgumentException("times is not 0 to 9999");
        }
        made.setRepeated(repeated, times);
        repeated.setCopy(made);
        return repeated.rank();
    }

    // ---- the method

    public int step(int kept) throws IllegalArgumentException, IllegalStateException {
        if (!Method.isStep(kept, bells)) {
            throw new IllegalArgumentException("not the kept places of a step");
        }
        if (method.length() >= MOST_STEPS) {
            throw new IllegalStateException("the method has 10 steps");
        }
        method.add(kept);
        return method.length();
    }

    public int clear() {
        int before = method.length();
        method.removeAll();
        return before;
    }

    public int ring(int change, int steps) throws IndexOutOfBoundsException, IllegalArgumentException {
        Change ringing = find(change);
        checkSteps(steps);
        if (method.length() > 0) {
            for (int i = 0; i < steps; i++) {
                method.ringOn(ringing, i);
            }
            rungInAll += steps;
        }
        return ringing.rank();
    }

    // ---- what there is

    public int bell(int change, int place) throws IndexOutOfBoundsException {
        Change of = find(change);
        checkPlace(place);
        return of.bellAt(place);
    }

    public int told(int change, int what) throws IndexOutOfBoundsException {
        Change of = find(change);
        switch (what) {
            case 0:
                return of.rank();
            case 1:
                return of.inversions();
            case 2:
                return of.inversions() & 1;
            case 3:
                return of.ringCount();
            case 4:
                return of.longestRing();
            case 5:
                return of.order();
            case 6:
                return of.ownPlaces();
            case 7:
                return of.placeOf(0);
            default:
                throw new IndexOutOfBoundsException("what is not 0 to 7");
        }
    }

    public int round(int change, int place) throws IndexOutOfBoundsException {
        Change of = find(change);
        checkPlace(place);
        return of.ringLength(place);
    }

    public int apart(int a, int b) throws IndexOutOfBoundsException {
        Change from = find(a);
        Change to = find(b);
        int swaps = 0;
        for (int i = 0; i < bells; i++) {
            for (int j = i + 1; j < bells; j++) {
                // Each swap of neighbours mends the order of one pair of bells at most.
                if (to.placeOf(from.bellAt(i)) > to.placeOf(from.bellAt(j))) {
                    swaps++;
                }
            }
        }
        return swaps;
    }

    public int count(int what) throws IndexOutOfBoundsException {
        switch (what) {
            case 0:
                return bells;
            case 1:
                return changesOf(bells);
            case 2:
                return written;
            case 3:
                return differentInBook();
            case 4:
                return method.length();
            case 5:
                return rungInAll;
            default:
                throw new IndexOutOfBoundsException("what is not 0 to 5");
        }
    }

    public int kept(int number) throws IndexOutOfBoundsException {
        if (number < 0 || number >= method.length()) {
            throw new IndexOutOfBoundsException("no such step");
        }
        return method.keptAt(number);
    }

    // ---- what would be

    public int comes(int change) throws IndexOutOfBoundsException {
        Change start = find(change);
        if (method.length() == 0) {
            return -1;
        }
        rung.setCopy(start);
        for (int steps = 1; steps <= MOST_LOOKED_AT; steps++) {
            method.ringOn(rung, steps - 1);
            if (rung.isSame(start)) {
                return steps;
            }
        }
        return -1;
    }

    public int differ(int steps) throws IllegalArgumentException {
        checkSteps(steps);
        rung.setRank(bells, 0);
        ranks.removeAll();
        ranks.add(rung.rank());
        if (method.length() > 0) {
            for (int i = 0; i < steps; i++) {
                method.ringOn(rung, i);
                ranks.add(rung.rank());
            }
        }
        return ranks.size();
    }

    public int advise(int change) throws IndexOutOfBoundsException {
        Change first = find(change);
        int best = 0;
        int fewest = 0;
        for (int i = 0; i < written; i++) {
            made.setBehind(first, book[i]);
            int inversions = made.inversions();
            if (i == 0 || inversions < fewest) {
                fewest = inversions;
                best = i;
            }
        }
        return best;
    }

    public double mean() {
        if (written == 0) {
            return 0.0;
        }
        int sum = 0;
        for (int i = 0; i < written; i++) {
            sum += book[i].rank();
        }
        return (double) sum / (double) written;
    }

    public long digest() {
        long d = DIGEST_START;
        for (int what = 0; what < COUNTS; what++) {
            d = d * DIGEST_FACTOR + count(what);
        }
        for (int change = 0; change < written; change++) {
            for (int what = 0; what < TELLINGS; what++) {
                d = d * DIGEST_FACTOR + told(change, what);
            }
            for (int place = 0; place < bells; place++) {
                d = d * DIGEST_FACTOR + bell(change, place);
            }
        }
        for (int number = 0; number < method.length(); number++) {
            d = d * DIGEST_FACTOR + kept(number);
        }
        return d;
    }

    // ---- what the calls share

    private Change find(int change) {
        if (change < 0 || change >= written) {
            throw new IndexOutOfBoundsException("no such change");
        }
        return book[change];
    }

    private Change openPage() {
        if (written >= book.length) {
            throw new IllegalStateException("the book holds 16 changes");
        }
        Change page = book[written];
        written++;
        return page;
    }

    private void checkPlace(int place) {
        if (place < 0 || place >= bells) {
            throw new IndexOutOfBoundsException("no such place");
        }
    }

    private static void checkSteps(int steps) {
        if (steps < 1 || steps > MOST_RUNG) {
            throw new IllegalArgumentException("steps is not 1 to 200");
        }
    }

    private int differentInBook() {
        ranks.removeAll();
        for (int i = 0; i < written; i++) {
            ranks.add(book[i].rank());
        }
        return ranks.size();
    }

    private static int changesOf(int bells) {
        int changes = 1;
        for (int i = 2; i <= bells; i++) {
            changes *= i;
        }
        return changes;
    }

    /** An order of the first bells, each once; its row has room for the most bells there can be. */
    private static final class Change {
        private final int[] row;
        private int size;

        Change() {
            row = new int[MOST_BELLS];
            size = 0;
        }

        int bellAt(int place) {
            return place >= 0 && place < row.length ? row[place] : 0;
        }

        private void put(int place, int bell) {
            if (place >= 0 && place < row.length) {
                row[place] = bell;
            }
        }

        int placeOf(int bell) {
            int place = 0;
            while (place < size && bellAt(place) != bell) {
                place++;
            }
            return place;
        }

        boolean isSame(Change other) {
            for (int place = 0; place < size; place++) {
                if (bellAt(place) != other.bellAt(place)) {
                    return false;
                }
            }
            return true;
        }

        int rank() {
            int rank = 0;
            for (int place = 0; place < size; place++) {
                rank = rank * (size - place) + lesserBehind(place);
            }
            return rank;
        }

        int inversions() {
            int inversions = 0;
            for (int place = 0; place < size; place++) {
                inversions += lesserBehind(place);
            }
            return inversions;
        }

        private int lesserBehind(int place) {
            int lesser = 0;
            for (int other = place + 1; other < size; other++) {
                if (bellAt(other) < bellAt(place)) {
                    lesser++;
                }
            }
            return lesser;
        }

        void setRank(int bells, int rank) {
            size = bells;
            int rest = rank;
            // From the last place on: what stands behind a place is an order of so many bells as it has places.
            for (int left = 1; left <= bells; left++) {
                insertAhead(bells - left, rest % left);
                rest /= left;
            }
        }

        private void insertAhead(int place, int bell) {
            put(place, bell);
            for (int other = place + 1; other < size; other++) {
                if (bellAt(other) >= bell) {
                    put(other, bellAt(other) + 1);
                }
            }
        }

        void setCopy(Change other) {
            size = other.size;
            for (int place = 0; place < size; place++) {
                put(place, other.bellAt(place));
            }
        }

        /** Neither of the two may be this change itself. */
        void setBehind(Change first, Change second) {
            size = second.size;
            for (int place = 0; place < size; place++) {
                put(place, first.bellAt(second.bellAt(place)));
            }
        }

        /** The other one may not be this change itself. */
        void setBack(Change other) {
            size = other.size;
            for (int place = 0; place < size; place++) {
                put(other.bellAt(place), place);
            }
        }

        /** The other one may not be this change itself. */
        void setRepeated(Change other, int times) {
            size = other.size;
            for (int place = 0; place < size; place++) {
                int length = other.ringLength(place);
                // Whole turns of its ring bring a place back to itself.
                int rest = length > 0 ? times % length : 0;
                put(place, other.goneFrom(place, rest));
            }
        }

        private int goneFrom(int place, int times) {
            int reached = place;
            for (int i = 0; i < times; i++) {
                reached = bellAt(reached);
            }
            return reached;
        }

        void exchange(int place) {
            int bell = bellAt(place);
            put(place, bellAt(place + 1));
            put(place + 1, bell);
        }

        void ringStep(int kept) {
            int place = 0;
            while (place + 1 < size) {
                if (Method.keeps(kept, place)) {
                    place++;
                } else {
                    exchange(place);
                    place += 2;
                }
            }
        }

        int ringLength(int place) {
            int length = 1;
            int reached = bellAt(place);
            while (reached != place && length < size) {
                reached = bellAt(reached);
                length++;
            }
            return length;
        }

        private boolean isLeastOfRing(int place) {
            int reached = bellAt(place);
            for (int i = 0; i < size && reached > place; i++) {
                reached = bellAt(reached);
            }
            return reached == place;
        }

        int ringCount() {
            int rings = 0;
            for (int place = 0; place < size; place++) {
                if (isLeastOfRing(place)) {
                    rings++;
                }
            }
            return rings;
        }

        int longestRing() {
            int longest = 0;
            for (int place = 0; place < size; place++) {
                longest = Math.max(longest, ringLength(place));
            }
            return longest;
        }

        int order() {
            int order = 1;
            for (int place = 0; place < size; place++) {
                order = leastMultiple(order, ringLength(place));
            }
            return order;
        }

        private static int leastMultiple(int a, int b) {
            int multiple = a;
            for (int i = 1; i < b && multiple % b != 0; i++) {
                multiple += a;
            }
            return multiple;
        }

        int ownPlaces() {
            int own = 0;
            for (int place = 0; place < size; place++) {
                if (bellAt(place) == place) {
                    own++;
                }
            }
            return own;
        }
    }

    /** The steps that are rung one by one, each as the bits of the places that it keeps. */
    private static final class Method {
        private final int[] steps;
        private int length;

        Method() {
            steps = new int[MOST_STEPS];
            length = 0;
        }

        static boolean keeps(int kept, int place) {
            return (kept >> place & 1) == 1;
        }

        static boolean isStep(int kept, int bells) {
            if (kept < 0 || kept >= 1 << bells) {
                return false;
            }
            int place = 0;
            while (place < bells) {
                if (keeps(kept, place)) {
                    place++;
                } else if (place + 1 < bells && !keeps(kept, place + 1)) {
                    place += 2;
                } else {
                    return false;
                }
            }
            return true;
        }

        int length() {
            return length;
        }

        int keptAt(int number) {
            return number >= 0 && number < steps.length ? steps[number] : 0;
        }

        void add(int kept) {
            if (length < steps.length) {
                steps[length] = kept;
                length++;
            }
        }

        void removeAll() {
            length = 0;
        }

        /** Rings the step that comes after so many; behind the last one the first one comes again. */
        void ringOn(Change change, int rungBefore) {
            if (length > 0) {
                change.ringStep(keptAt(rungBefore % length));
            }
        }
    }

    /** Different ranks: room for the rounds and for what comes of the most steps rung. */
    private static final class RankSet {
        private final int[] row;
        private int size;

        RankSet() {
            row = new int[MOST_RUNG + 1];
            size = 0;
        }

        int size() {
            return size;
        }

        void removeAll() {
            size = 0;
        }

        void add(int rank) {
            for (int i = 0; i < size; i++) {
                if (row[i] == rank) {
                    return;
                }
            }
            if (size < row.length) {
                row[size] = rank;
                size++;
            }
        }
    }
}
