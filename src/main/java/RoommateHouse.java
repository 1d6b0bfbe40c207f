/**
 * Who shares a room with whom: persons with lists of others whom they would have, matchings that
 * nobody would leave, and the odd parties that stand in their way where there are none.
 */
public final class RoommateHouse {
    public static final int NONE = -1;

    private static final int MOST_PERSONS = 8;
    private static final int SMALLEST_RING = 3;

    private final Wishes wishes;
    private final Draft draft;
    private final StableMatchings stable;
    private final Partition partition;

    public RoommateHouse() {
        wishes = new Wishes();
        draft = new Draft(wishes);
        stable = new StableMatchings(wishes);
        partition = new Partition(wishes);
        startWith(0);
    }

    public int people(int n) throws IllegalArgumentException {
        if (n < 0 || n > MOST_PERSONS) {
            throw new IllegalArgumentException();
        }
        int before = wishes.count();
        startWith(n);
        return before;
    }

    public int put(int person, int other)
            throws IndexOutOfBoundsException, IllegalArgumentException, IllegalStateException {
        demandPersons(person, other);
        if (person == other) {
            throw new IllegalArgumentException();
        }
        if (wishes.placeOf(person, other) != NONE) {
            throw new IllegalStateException();
        }
        wishes.append(person, other);
        return wishes.length(person);
    }

    public int remove(int person, int i) throws IndexOutOfBoundsException {
        demandPerson(person);
        demandPlace(person, i);
        int other = wishes.otherAt(person, i);
        wishes.cut(person, i);
        draft.partIfNotPossible(person, other);
        return other;
    }

    public int move(int person, int i, int j) throws IndexOutOfBoundsException {
        demandPerson(person);
        demandPlace(person, i);
        demandPlace(person, j);
        wishes.shift(person, i, j);
        return wishes.otherAt(person, j);
    }

    public int at(int person, int i) throws IndexOutOfBoundsException {
        demandPerson(person);
        if (i < 0) {
            throw new IndexOutOfBoundsException();
        }
        return i < wishes.length(person) ? wishes.otherAt(person, i) : NONE;
    }

    public int place(int person, int other) throws IndexOutOfBoundsException {
        demandPersons(person, other);
        return wishes.placeOf(person, other);
    }

    public int pair(int one, int other)
            throws IndexOutOfBoundsException, IllegalArgumentException, IllegalStateException {
        demandPersons(one, other);
        if (one == other) {
            throw new IllegalArgumentException();
        }
        if (!wishes.arePossible(one, other)) {
            throw new IllegalStateException();
        }
        draft.join(one, other);
        return draft.countBlocking();
    }

    public int partner(int person) throws IndexOutOfBoundsException {
        demandPerson(person);
        return draft.mateOf(person);
    }

    public int blocking() {
        return draft.countBlocking();
    }

    public int satisfy() {
        return draft.joinFirstBlocking();
    }

    public int matchings() {
        return stable.howMany();
    }

    public int matched(int person) throws IndexOutOfBoundsException {
        demandPerson(person);
        return stable.mateInFirst(person);
    }

    public int extreme(int person, boolean worst) throws IndexOutOfBoundsException {
        demandPerson(person);
        return worst ? stable.worstMate(person) : stable.bestMate(person);
    }

    public int together(int one, int other) throws IndexOutOfBoundsException {
        demandPersons(one, other);
        return stable.howOften(one, other);
    }

    public int party(int person) throws IndexOutOfBoundsException {
        demandPerson(person);
        return partition.oddSize(person);
    }

    public int next(int person) throws IndexOutOfBoundsException {
        demandPerson(person);
        return partition.follower(person);
    }

    public int parties(boolean three) {
        return three ? partition.countOddRings() : partition.countOdd();
    }

    public int size() {
        return wishes.count();
    }

    public int astray() {
        return draft.countAstray();
    }

    private void startWith(int n) {
        wishes.clear(n);
        draft.makeAllSingle();
    }

    private void demandPerson(int person) {
        if (person < 0 || person >= wishes.count()) {
            throw new IndexOutOfBoundsException();
        }
    }

    private void demandPersons(int one, int other) {
        demandPerson(one);
        demandPerson(other);
    }

    private void demandPlace(int person, int i) {
        if (i < 0 || i >= wishes.length(person)) {
            throw new IndexOutOfBoundsException();
        }
    }

    /** The persons and their lists. */
    private static final class Wishes {
        private static final int SINGLE = MOST_PERSONS;
        private static final int NOT_POSSIBLE = MOST_PERSONS + 1;

        private final int[] lengths = new int[MOST_PERSONS];
        private final int[][] others = new int[MOST_PERSONS][MOST_PERSONS];
        private final int[][] places = new int[MOST_PERSONS][MOST_PERSONS];
        /** The less, the better: possible ones by their place, then oneself, then all others. */
        private final int[][] standings = new int[MOST_PERSONS][MOST_PERSONS];
        private int count;
        private int changes;

        int count() {
            return count;
        }

        /** Lets what was reckoned from the lists be kept until they change. */
        int changes() {
            return changes;
        }

        int length(int person) {
            return lengths[person];
        }

        int otherAt(int person, int i) {
            return others[person][i];
        }

        int placeOf(int person, int other) {
            return places[person][other];
        }

        void clear(int n) {
            count = n;
            for (int person = 0; person < MOST_PERSONS; person++) {
                lengths[person] = 0;
                for (int other = 0; other < MOST_PERSONS; other++) {
                    places[person][other] = NONE;
                    standings[person][other] = person == other ? SINGLE : NOT_POSSIBLE;
                }
            }
            changes++;
        }

        void append(int person, int other) {
            int end = lengths[person];
            lengths[person] = end + 1;
            set(person, end, other);
            noteChange(person);
        }

        void cut(int person, int i) {
            int end = lengths[person] - 1;
            int gone = others[person][i];
            slide(person, i, end);
            lengths[person] = end;
            places[person][gone] = NONE;
            noteChange(person);
        }

        void shift(int person, int from, int to) {
            slide(person, from, to);
            noteChange(person);
        }

        private void slide(int person, int from, int to) {
            int moved = others[person][from];
            for (int i = from; i < to; i++) {
                set(person, i, others[person][i + 1]);
            }
            for (int i = from; i > to; i--) {
                set(person, i, others[person][i - 1]);
            }
            set(person, to, moved);
        }

        private void set(int person, int i, int other) {
            others[person][i] = other;
            places[person][other] = i;
        }

        /** A person's list bears on both sides, because possible is who is on each other's. */
        private void noteChange(int person) {
            for (int other = 0; other < MOST_PERSONS; other++) {
                if (other != person) {
                    boolean both = places[person][other] != NONE && places[other][person] != NONE;
                    standings[person][other] = both ? places[person][other] : NOT_POSSIBLE;
                    standings[other][person] = both ? places[other][person] : NOT_POSSIBLE;
                }
            }
            changes++;
        }

        boolean arePossible(int one, int other) {
            return standings[one][other] < SINGLE;
        }

        /** Whether a person prefers somebody to one whom it may have: a possible one, or itself. */
        boolean prefers(int person, int somebody, int had) {
            return standings[person][somebody] < standings[person][had];
        }

        /** Whether two, each of which has somebody or itself, would rather have each other. */
        boolean wouldBlock(int one, int other, int[] had) {
            return standings[one][other] < standings[one][had[one]]
                    && standings[other][one] < standings[other][had[other]];
        }

        /** Whether a person would block with any of those who have somebody by now. */
        boolean wouldBlockWithAny(int person, int[] had) {
            for (int other = 0; other < count; other++) {
                if (had[other] != NONE && wouldBlock(person, other, had)) {
                    return true;
                }
            }
            return false;
        }
    }

    /** The matching that the caller makes. */
    private static final class Draft {
        private final Wishes wishes;
        private final int[] mates = new int[MOST_PERSONS];

        Draft(Wishes wishes) {
            this.wishes = wishes;
        }

        int mateOf(int person) {
            return mates[person];
        }

        void makeAllSingle() {
            for (int person = 0; person < MOST_PERSONS; person++) {
                mates[person] = person;
            }
        }

        void join(int one, int other) {
            makeSingle(one);
            makeSingle(other);
            mates[one] = other;
            mates[other] = one;
        }

        void partIfNotPossible(int one, int other) {
            if (mates[one] == other && !wishes.arePossible(one, other)) {
                makeSingle(one);
            }
        }

        private void makeSingle(int person) {
            int mate = mates[person];
            mates[mate] = mate;
            mates[person] = person;
        }

        int countBlocking() {
            int found = 0;
            for (int lesser = 0; lesser < wishes.count(); lesser++) {
                for (int greater = lesser + 1; greater < wishes.count(); greater++) {
                    if (wishes.wouldBlock(lesser, greater, mates)) {
                        found++;
                    }
                }
            }
            return found;
        }

        int joinFirstBlocking() {
            for (int lesser = 0; lesser < wishes.count(); lesser++) {
                for (int greater = lesser + 1; greater < wishes.count(); greater++) {
                    if (wishes.wouldBlock(lesser, greater, mates)) {
                        join(lesser, greater);
                        return lesser * MOST_PERSONS + greater;
                    }
                }
            }
            return NONE;
        }

        int countAstray() {
            int found = 0;
            for (int person = 0; person < wishes.count(); person++) {
                if (isAstray(person)) {
                    found++;
                }
            }
            return found;
        }

        private boolean isAstray(int person) {
            int mate = mates[person];
            return mates[mate] != person || (mate != person && !wishes.arePossible(person, mate));
        }
    }

    /** All stable matchings, reckoned once for the lists as they stand. */
    private static final class StableMatchings {
        private final Wishes wishes;
        private final int[] tried = new int[MOST_PERSONS];
        private final int[] first = new int[MOST_PERSONS];
        private final int[][] often = new int[MOST_PERSONS][MOST_PERSONS];
        private int found;
        private int reckonedAt = NONE;

        StableMatchings(Wishes wishes) {
            this.wishes = wishes;
        }

        int howMany() {
            reckon();
            return found;
        }

        int mateInFirst(int person) {
            reckon();
            return found == 0 ? NONE : first[person];
        }

        int howOften(int one, int other) {
            reckon();
            return often[one][other];
        }

        int bestMate(int person) {
            reckon();
            for (int i = 0; i < wishes.length(person); i++) {
                int other = wishes.otherAt(person, i);
                if (often[person][other] > 0) {
                    return other;
                }
            }
            return found == 0 ? NONE : person;
        }

        int worstMate(int person) {
            reckon();
            if (often[person][person] > 0) {
                return person;
            }
            for (int i = wishes.length(person) - 1; i >= 0; i--) {
                int other = wishes.otherAt(person, i);
                if (often[person][other] > 0) {
                    return other;
                }
            }
            return NONE;
        }

        private void reckon() {
            if (reckonedAt == wishes.changes()) {
                return;
            }
            reckonedAt = wishes.changes();
            found = 0;
            for (int person = 0; person < MOST_PERSONS; person++) {
                tried[person] = NONE;
                for (int other = 0; other < MOST_PERSONS; other++) {
                    often[person][other] = 0;
                }
            }
            search(0);
        }

        /** Tries each person's preferred ones first, so that the first found is the matching. */
        private void search(int person) {
            if (person >= wishes.count()) {
                keep();
                return;
            }
            if (tried[person] != NONE) {
                search(person + 1);
                return;
            }
            for (int i = 0; i < wishes.length(person); i++) {
                int other = wishes.otherAt(person, i);
                if (tried[other] == NONE && wishes.arePossible(person, other)) {
                    searchWith(person, other);
                }
            }
            searchWith(person, person);
        }

        private void searchWith(int person, int other) {
            tried[person] = other;
            tried[other] = person;
            if (!wishes.wouldBlockWithAny(person, tried)
                    && !wishes.wouldBlockWithAny(other, tried)) {
                search(person + 1);
            }
            tried[person] = NONE;
            tried[other] = NONE;
        }

        private void keep() {
            found++;
            for (int person = 0; person < wishes.count(); person++) {
                often[person][tried[person]]++;
                if (found == 1) {
                    first[person] = tried[person];
                }
            }
        }
    }

    /**
     * A partition, reckoned once for the lists as they stand. Any one will do, because the odd
     * parties are the same in all.
     */
    private static final class Partition {
        private final Wishes wishes;
        private final int[] followers = new int[MOST_PERSONS];
        private final int[] leaders = new int[MOST_PERSONS];
        private final int[] oddSizes = new int[MOST_PERSONS];
        private int odd;
        private int oddRings;
        private int reckonedAt = NONE;

        Partition(Wishes wishes) {
            this.wishes = wishes;
        }

        int oddSize(int person) {
            reckon();
            return oddSizes[person];
        }

        int follower(int person) {
            reckon();
            return oddSizes[person] == 0 ? NONE : followers[person];
        }

        int countOdd() {
            reckon();
            return odd;
        }

        int countOddRings() {
            reckon();
            return oddRings;
        }

        private void reckon() {
            if (reckonedAt == wishes.changes()) {
                return;
            }
            reckonedAt = wishes.changes();
            for (int person = 0; person < MOST_PERSONS; person++) {
                followers[person] = NONE;
                leaders[person] = NONE;
                oddSizes[person] = 0;
            }
            odd = 0;
            oddRings = 0;
            if (search(0)) {
                measureAll();
            }
        }

        private boolean search(int person) {
            if (person >= wishes.count()) {
                return true;
            }
            for (int i = 0; i < wishes.length(person); i++) {
                int other = wishes.otherAt(person, i);
                if (wishes.arePossible(person, other) && searchWith(person, other)) {
                    return true;
                }
            }
            return searchWith(person, person);
        }

        private boolean searchWith(int person, int follower) {
            if (leaders[follower] != NONE) {
                return false;
            }
            followers[person] = follower;
            leaders[follower] = person;
            if (keepsOrder(person) && keepsOrder(follower)
                    && !wishes.wouldBlockWithAny(follower, leaders) && search(person + 1)) {
                return true;
            }
            followers[person] = NONE;
            leaders[follower] = NONE;
            return false;
        }

        /** Whether a person does not prefer its last one to its next one, as far as these are set. */
        private boolean keepsOrder(int person) {
            int follower = followers[person];
            int leader = leaders[person];
            return follower == NONE || leader == NONE
                    || !wishes.prefers(person, leader, follower);
        }

        private void measureAll() {
            for (int person = 0; person < wishes.count(); person++) {
                int size = sizeRound(person);
                if (size % 2 == 1) {
                    oddSizes[person] = size;
                    countParty(person, size);
                }
            }
        }

        private int sizeRound(int person) {
            int size = 1;
            for (int at = followers[person]; at != person && size < MOST_PERSONS; size++) {
                at = followers[at];
            }
            return size;
        }

        /** Counts a party once, at its least person. */
        private void countParty(int person, int size) {
            int at = person;
            for (int step = 1; step < size; step++) {
                at = followers[at];
                if (at < person) {
                    return;
                }
            }
            odd++;
            if (size >= SMALLEST_RING) {
                oddRings++;
            }
        }
    }
}
