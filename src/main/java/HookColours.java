import java.util.Arrays;

/**
 * A kitchen with hooks for pots.
 *
 * <p>Sets of pots are held as bits: 1 for the pot 0, 2 for the pot 1, 4 for the pot 2 and so on.
 */
public final class HookColours {
    private static final int NONE = -1;
    private static final int POTS = 16;
    private static final int DEEDS = 30;
    private static final int HEAVIEST = 9;
    private static final int HOOKS_AT_FIRST = 3;
    private static final int MOST_HOOKS = 8;
    private static final int MOST_HOOKS_TRIED = 16;

    private static final int DEED_FACTS = 7;
    private static final int POT_FACTS = 6;
    private static final int COUNTS = 10;

    private static final long DIGEST_START = 1609;
    private static final long DIGEST_FACTOR = 31;

    private final Row row = new Row();
    private final Study study = new Study();
    private final Hanging hanging = new Hanging();

    // What would be is tried on these, so that the kitchen itself stays as it is and no call makes new rows.
    private final Row rowTried = new Row();
    private final Study studyTried = new Study();
    private final Hanging hangingTried = new Hanging();

    private int wanted = 0;
    private int hooks = HOOKS_AT_FIRST;

    public HookColours() {
        settle();
    }

    // ---- deeds

    public int cook(int pot, int one, int other, int weight)
            throws IndexOutOfBoundsException, IllegalArgumentException, IllegalStateException {
        requirePot(pot);
        requirePotOrNone(one);
        requirePotOrNone(other);
        requireWeight(weight);
        int number = row.add(pot, one, other, weight, false);
        settle();
        return number;
    }

    public int pour(int pot, int from, int weight)
            throws IndexOutOfBoundsException, IllegalArgumentException, IllegalStateException {
        requirePot(pot);
        requirePot(from);
        requireWeight(weight);
        int number = row.add(pot, from, NONE, weight, true);
        settle();
        return number;
    }

    public int drop(int deed) throws IndexOutOfBoundsException {
        row.remove(deed);
        settle();
        return row.size;
    }

    public boolean want(int pot, boolean want) throws IndexOutOfBoundsException {
        requirePot(pot);
        boolean before = has(wanted, pot);
        wanted = want ? wanted | bit(pot) : wanted & ~bit(pot);
        settle();
        return before;
    }

    public int setHooks(int hooks) throws IllegalArgumentException {
        if (hooks < 1 || hooks > MOST_HOOKS) {
            throw new IllegalArgumentException("hooks is not 1 to 8");
        }
        int before = this.hooks;
        this.hooks = hooks;
        settle();
        return before;
    }

    // ---- lives

    public int deed(int deed, int what) throws IndexOutOfBoundsException {
        requireDeed(deed);
        switch (what) {
            case 0: return row.filled[deed];
            case 1: return row.first[deed];
            case 2: return row.second[deed];
            case 3: return row.weight[deed];
            case 4: return row.pouring[deed] ? 1 : 0;
            case 5: return Integer.bitCount(study.behind[deed]);
            case 6: return Integer.bitCount(study.ahead[deed]);
            default: throw new IndexOutOfBoundsException("what is not 0 to 6");
        }
    }

    public boolean lives(int pot, int deed) throws IndexOutOfBoundsException {
        requirePot(pot);
        requireDeed(deed);
        return has(study.behind[deed], pot);
    }

    public boolean clash(int a, int b) throws IndexOutOfBoundsException {
        requirePot(a);
        requirePot(b);
        return has(study.clashes[a], b);
    }

    // ---- hooks

    public int pot(int pot, int what) throws IndexOutOfBoundsException {
        requirePot(pot);
        switch (what) {
            case 0: return has(study.there, pot) ? 1 : 0;
            case 1: return study.cost[pot];
            case 2: return Integer.bitCount(study.clashes[pot]);
            case 3: return hanging.hook[pot];
            case 4: return hanging.place[pot];
            case 5: return has(hanging.floor, pot) ? 1 : 0;
            default: throw new IndexOutOfBoundsException("what is not 0 to 5");
        }
    }

    public int count(int what) throws IndexOutOfBoundsException {
        switch (what) {
            case 0: return row.size;
            case 1: return hooks;
            case 2: return Integer.bitCount(study.there);
            case 3: return study.pairsOfClashes();
            case 4: return Integer.bitCount(hanging.floor);
            case 5: return hanging.hooksInUse();
            case 6: return pourings();
            case 7: return pouringsSpared();
            case 8: return study.costOf(hanging.floor);
            case 9: return weightsNotSpared();
            default: throw new IndexOutOfBoundsException("what is not 0 to 9");
        }
    }

    public int hangs(int hook) throws IndexOutOfBoundsException {
        if (hook < 0 || hook >= hooks) {
            throw new IndexOutOfBoundsException("there is no such hook");
        }
        return Integer.bitCount(hanging.potsAt[hook]);
    }

    public int crowd() {
        int most = Integer.bitCount(study.aheadOfAll);
        for (int deed = 0; deed < row.size; deed++) {
            most = Math.max(most, Integer.bitCount(study.behind[deed]));
        }
        return most;
    }

    // ---- what would be

    public int would(int hooks) throws IllegalArgumentException {
        if (hooks < 1 || hooks > MOST_HOOKS_TRIED) {
            throw new IllegalArgumentException("hooks is not 1 to 16");
        }
        return floorWith(hooks);
    }

    public int fewest() {
        if (study.there == 0) {
            return 0;
        }
        // More hooks can leave more pots on the floor, so each number is tried, from the smallest on.
        for (int tried = 1; tried < MOST_HOOKS_TRIED; tried++) {
            if (floorWith(tried) == 0) {
                return tried;
            }
        }
        // No pot clashes with more than 15 others.
        return MOST_HOOKS_TRIED;
    }

    public int advise() {
        int best = NONE;
        int least = 0;
        for (int deed = 0; deed < row.size; deed++) {
            int cost = floorCostWithout(deed);
            if (best == NONE || cost < least) {
                best = deed;
                least = cost;
            }
        }
        return best;
    }

    public double mean() {
        if (row.size == 0) {
            return 0;
        }
        int sum = 0;
        for (int deed = 0; deed < row.size; deed++) {
            sum += Integer.bitCount(study.behind[deed]);
        }
        return (double) sum / (double) row.size;
    }

    public long digest() {
        long d = DIGEST_START;
        for (int what = 0; what < COUNTS; what++) {
            d = digested(d, count(what));
        }
        for (int deed = 0; deed < row.size; deed++) {
            for (int what = 0; what < DEED_FACTS; what++) {
                d = digested(d, deed(deed, what));
            }
        }
        for (int pot = 0; pot < POTS; pot++) {
            for (int what = 0; what < POT_FACTS; what++) {
                d = digested(d, pot(pot, what));
            }
            d = digested(d, has(wanted, pot) ? 1 : 0);
            d = digested(d, study.clashes[pot]);
        }
        return d;
    }

    private static long digested(long d, long x) {
        return d * DIGEST_FACTOR + x;
    }

    /** Works out anew what follows from the deeds, the pots wanted and the hooks; due after each change of them. */
    private void settle() {
        study.make(row, wanted);
        hanging.make(study, hooks);
    }

    private int floorWith(int hooksTried) {
        hangingTried.make(study, hooksTried);
        return Integer.bitCount(hangingTried.floor);
    }

    private int floorCostWithout(int deed) {
        rowTried.copy(row);
        rowTried.remove(deed);
        studyTried.make(rowTried, wanted);
        hangingTried.make(studyTried, hooks);
        return studyTried.costOf(hangingTried.floor);
    }

    private int pourings() {
        int found = 0;
        for (int deed = 0; deed < row.size; deed++) {
            if (row.pouring[deed]) {
                found++;
            }
        }
        return found;
    }

    private int pouringsSpared() {
        int found = 0;
        for (int deed = 0; deed < row.size; deed++) {
            if (isSpared(deed)) {
                found++;
            }
        }
        return found;
    }

    private int weightsNotSpared() {
        int sum = 0;
        for (int deed = 0; deed < row.size; deed++) {
            if (!isSpared(deed)) {
                sum += row.weight[deed];
            }
        }
        return sum;
    }

    private boolean isSpared(int deed) {
        return row.pouring[deed] && hanging.share(row.filled[deed], row.first[deed]);
    }

    private void requireDeed(int deed) {
        if (deed < 0 || deed >= row.size) {
            throw new IndexOutOfBoundsException("there is no such deed");
        }
    }

    private static void requirePot(int pot) {
        if (!isPot(pot)) {
            throw new IndexOutOfBoundsException("a pot is not 0 to 15");
        }
    }

    private static void requirePotOrNone(int pot) {
        if (pot != NONE && !isPot(pot)) {
            throw new IndexOutOfBoundsException("a pot is not -1 to 15");
        }
    }

    private static void requireWeight(int weight) {
        if (weight < 1 || weight > HEAVIEST) {
            throw new IllegalArgumentException("weight is not 1 to 9");
        }
    }

    private static boolean isPot(int pot) {
        return pot >= 0 && pot < POTS;
    }

    /** The set of this one pot; of no pot the empty set. */
    private static int bit(int pot) {
        return isPot(pot) ? 1 << pot : 0;
    }

    private static boolean has(int pots, int pot) {
        return isPot(pot) && ((pots >> pot) & 1) != 0;
    }

    /** The deeds, one behind the other. */
    private static final class Row {
        final int[] filled = new int[DEEDS];
        final int[] first = new int[DEEDS];
        final int[] second = new int[DEEDS];
        final int[] weight = new int[DEEDS];
        final boolean[] pouring = new boolean[DEEDS];
        int size = 0;

        int add(int pot, int one, int other, int weighing, boolean pours) {
            if (size >= DEEDS) {
                throw new IllegalStateException("there are 30 deeds");
            }
            int number = size;
            filled[number] = pot;
            first[number] = one;
            second[number] = other;
            weight[number] = weighing;
            pouring[number] = pours;
            size = number + 1;
            return number;
        }

        void remove(int deed) {
            if (deed < 0 || deed >= size) {
                throw new IndexOutOfBoundsException("there is no such deed");
            }
            for (int to = deed; to + 1 < size; to++) {
                takeOver(this, to + 1, to);
            }
            size--;
        }

        void copy(Row from) {
            for (int deed = 0; deed < from.size; deed++) {
                takeOver(from, deed, deed);
            }
            size = from.size;
        }

        int used(int deed) {
            return bit(first[deed]) | bit(second[deed]);
        }

        private void takeOver(Row from, int there, int here) {
            filled[here] = from.filled[there];
            first[here] = from.first[there];
            second[here] = from.second[there];
            weight[here] = from.weight[there];
            pouring[here] = from.pouring[there];
        }
    }

    /** What follows from the deeds and the pots wanted at the end, whatever hooks there are. */
    private static final class Study {
        final int[] behind = new int[DEEDS];
        final int[] ahead = new int[DEEDS];
        final int[] clashes = new int[POTS];
        final int[] poured = new int[POTS];
        final int[] cost = new int[POTS];
        int aheadOfAll = 0;
        int there = 0;

        void make(Row row, int wanted) {
            Arrays.fill(clashes, 0);
            Arrays.fill(poured, 0);
            Arrays.fill(cost, 0);
            there = wanted;
            findLives(row, wanted);
            for (int pot = 0; pot < POTS; pot++) {
                if (has(aheadOfAll, pot)) {
                    addClashes(pot, aheadOfAll);
                }
            }
            for (int deed = 0; deed < row.size; deed++) {
                takeIn(row, deed);
            }
        }

        int pairsOfClashes() {
            int ends = 0;
            for (int pot = 0; pot < POTS; pot++) {
                ends += Integer.bitCount(clashes[pot]);
            }
            return ends >> 1;
        }

        int costOf(int pots) {
            int sum = 0;
            for (int pot = 0; pot < POTS; pot++) {
                if (has(pots, pot)) {
                    sum += cost[pot];
                }
            }
            return sum;
        }

        private void findLives(Row row, int wanted) {
            int living = wanted;
            for (int deed = row.size - 1; deed >= 0; deed--) {
                behind[deed] = living;
                living = row.used(deed) | (living & ~bit(row.filled[deed]));
                ahead[deed] = living;
            }
            aheadOfAll = living;
        }

        private void takeIn(Row row, int deed) {
            int pot = row.filled[deed];
            there |= bit(pot) | row.used(deed);
            addCost(pot, row.weight[deed]);
            addCost(row.first[deed], row.weight[deed]);
            addCost(row.second[deed], row.weight[deed]);
            if (row.pouring[deed]) {
                addPoured(pot, row.first[deed]);
                addClashes(pot, behind[deed] & ~bit(row.first[deed]));
            } else {
                addClashes(pot, behind[deed]);
            }
        }

        private void addCost(int pot, int weight) {
            if (isPot(pot)) {
                cost[pot] += weight;
            }
        }

        private void addPoured(int pot, int from) {
            if (isPot(pot) && isPot(from)) {
                poured[pot] |= bit(from);
                poured[from] |= bit(pot);
            }
        }

        /** The pot may be among the others told; with itself it does not clash. */
        private void addClashes(int pot, int others) {
            if (!isPot(pot)) {
                return;
            }
            int rivals = others & ~bit(pot);
            clashes[pot] |= rivals;
            for (int rival = 0; rival < POTS; rival++) {
                if (has(rivals, rival)) {
                    clashes[rival] |= bit(pot);
                }
            }
        }
    }

    /** Which pot gets which hook. */
    private static final class Hanging {
        final int[] place = new int[POTS];
        final int[] hook = new int[POTS];
        final int[] potsAt = new int[MOST_HOOKS_TRIED];
        private final int[] aside = new int[POTS];
        int floor = 0;

        void make(Study study, int hooks) {
            int count = putAside(study, hooks);
            Arrays.fill(hook, NONE);
            Arrays.fill(potsAt, 0);
            floor = 0;
            for (int turn = count - 1; turn >= 0; turn--) {
                hangUp(study, aside[turn], hooks);
            }
        }

        int hooksInUse() {
            int found = 0;
            for (int one = 0; one < MOST_HOOKS_TRIED; one++) {
                if (potsAt[one] != 0) {
                    found++;
                }
            }
            return found;
        }

        /** Whether both hang, and at the same hook. */
        boolean share(int pot, int other) {
            return isPot(pot) && isPot(other) && hook[pot] != NONE && hook[pot] == hook[other];
        }

        /** Answers how many pots were put aside. */
        private int putAside(Study study, int hooks) {
            Arrays.fill(place, NONE);
            int left = study.there;
            int count = 0;
            while (left != 0 && count < POTS) {
                int pot = firstEasy(study, left, hooks);
                if (pot == NONE) {
                    pot = cheapest(study, left);
                }
                if (isPot(pot)) {
                    place[pot] = count;
                }
                aside[count] = pot;
                left &= ~bit(pot);
                count++;
            }
            return count;
        }

        /** Answers the first pot left that clashes with fewer of those left than there are hooks, or -1. */
        private static int firstEasy(Study study, int left, int hooks) {
            for (int pot = 0; pot < POTS; pot++) {
                if (has(left, pot) && Integer.bitCount(study.clashes[pot] & left) < hooks) {
                    return pot;
                }
            }
            return NONE;
        }

        /** Each pot left clashes here with some pot left, so that products can stand for the quotients. */
        private static int cheapest(Study study, int left) {
            int best = NONE;
            int bestCost = 0;
            int bestRivals = 0;
            for (int pot = 0; pot < POTS; pot++) {
                int rivals = Integer.bitCount(study.clashes[pot] & left);
                if (has(left, pot) && (best == NONE || study.cost[pot] * bestRivals < bestCost * rivals)) {
                    best = pot;
                    bestCost = study.cost[pot];
                    bestRivals = rivals;
                }
            }
            return best;
        }

        private void hangUp(Study study, int pot, int hooks) {
            if (!isPot(pot)) {
                return;
            }
            int chosen = hookOfPartner(study.poured[pot], study.clashes[pot]);
            if (chosen == NONE) {
                chosen = firstFree(study.clashes[pot], hooks);
            }
            if (chosen < 0 || chosen >= MOST_HOOKS_TRIED) {
                floor |= bit(pot);
                return;
            }
            hook[pot] = chosen;
            potsAt[chosen] |= bit(pot);
        }

        private int hookOfPartner(int partners, int rivals) {
            for (int pot = 0; pot < POTS; pot++) {
                if (has(partners, pot) && isFree(hook[pot], rivals)) {
                    return hook[pot];
                }
            }
            return NONE;
        }

        private int firstFree(int rivals, int hooks) {
            for (int one = 0; one < hooks; one++) {
                if (isFree(one, rivals)) {
                    return one;
                }
            }
            return NONE;
        }

        private boolean isFree(int one, int rivals) {
            return one >= 0 && one < MOST_HOOKS_TRIED && (potsAt[one] & rivals) == 0;
        }
    }
}
