import java.util.Arrays;

/**
 * Terms without variables, equations and disequations between them, and what follows from
 * these by congruence. The promises are numbered in DOC.md.
 */
public final class CongruenceLedger {
    public static final int NONE = -1;
    public static final int BAD = -2;
    public static final int FULL = -3;

    private static final int SYMBOLS = 16;
    private static final int MOST_TERMS = 40;
    private static final int MOST_EQUATIONS = 24;
    private static final int MOST_DISEQUATIONS = 16;
    private static final int MOST_LEVELS = 6;

    private final TermTable termTable;
    private final PairList equationList;
    private final PairList disequationList;
    private final LevelStack levels;
    private final Partition current;
    private final Partition trial;
    private final WeightTable weights;

    public CongruenceLedger() {
        termTable = new TermTable();
        equationList = new PairList(MOST_EQUATIONS);
        disequationList = new PairList(MOST_DISEQUATIONS);
        levels = new LevelStack();
        current = new Partition();
        trial = new Partition();
        weights = new WeightTable();
    }

    public int make(int symbol, int a, int b) {
        if (!isShape(symbol, a, b)) {
            return BAD;
        }
        int known = termTable.numberOf(symbol, a, b);
        if (known != NONE) {
            return known;
        }
        if (termTable.count >= MOST_TERMS) {
            return FULL;
        }
        int made = termTable.add(symbol, a, b);
        settleCurrent();
        return made;
    }

    public int equate(int s, int t) {
        if (!areTerms(s, t)) {
            return BAD;
        }
        if (equationList.isFull()) {
            return FULL;
        }
        int before = current.classCount(termTable.count);
        equationList.add(s, t);
        settleCurrent();
        return before - current.classCount(termTable.count);
    }

    public int differ(int s, int t) {
        if (!areTerms(s, t)) {
            return BAD;
        }
        if (disequationList.isFull()) {
            return FULL;
        }
        return disequationList.add(s, t);
    }

    public int open() {
        if (levels.depth >= MOST_LEVELS) {
            return FULL;
        }
        levels.push(termTable.count, equationList.count, disequationList.count);
        return levels.depth;
    }

    public int close() {
        if (levels.depth <= 0) {
            return NONE;
        }
        levels.depth--;
        termTable.count = levels.termCounts[levels.depth];
        equationList.count = levels.equationCounts[levels.depth];
        disequationList.count = levels.disequationCounts[levels.depth];
        settleCurrent();
        return levels.depth;
    }

    public int equal(int s, int t) {
        if (!areTerms(s, t)) {
            return BAD;
        }
        return current.joins(s, t) ? 1 : 0;
    }

    public int apart(int s, int t) {
        if (!areTerms(s, t)) {
            return BAD;
        }
        for (int i = 0; i < disequationList.count; i++) {
            int left = disequationList.lefts[i];
            int right = disequationList.rights[i];
            boolean asStated = current.joins(left, s) && current.joins(right, t);
            boolean turned = current.joins(left, t) && current.joins(right, s);
            if (asStated || turned) {
                return 1;
            }
        }
        return 0;
    }

    public boolean consistent() {
        for (int i = 0; i < disequationList.count; i++) {
            if (current.joins(disequationList.lefts[i], disequationList.rights[i])) {
                return false;
            }
        }
        return true;
    }

    public int leader(int t) {
        return isTerm(t) ? current.lowest[t] : BAD;
    }

    public int members(int t) {
        if (!isTerm(t)) {
            return BAD;
        }
        int size = 0;
        for (int u = 0; u < termTable.count; u++) {
            if (current.joins(u, t)) {
                size++;
            }
        }
        return size;
    }

    public int classes() {
        return current.classCount(termTable.count);
    }

    public int find(int symbol, int a, int b) {
        if (!isShape(symbol, a, b)) {
            return BAD;
        }
        for (int u = 0; u < termTable.count; u++) {
            if (current.fits(termTable, u, symbol, a, b)) {
                return current.lowest[u];
            }
        }
        return NONE;
    }

    public int since(int s, int t) {
        if (!areTerms(s, t)) {
            return BAD;
        }
        for (int k = 0; k <= equationList.count; k++) {
            if (followsFrom(allBelow(k), s, t)) {
                return k;
            }
        }
        return NONE;
    }

    public int explanation(int s, int t) {
        if (!areTerms(s, t)) {
            return BAD;
        }
        if (!current.joins(s, t)) {
            return NONE;
        }
        // The numbers k of the document only fall, so one walk downwards meets each of them:
        // k - 1 is the first equation that those below it and those kept can't do without.
        int kept = 0;
        for (int i = equationList.count - 1; i >= 0; i--) {
            if (!followsFrom(kept | allBelow(i), s, t)) {
                kept |= 1 << i;
            }
        }
        return kept;
    }

    public int needed(int s, int t) {
        if (!areTerms(s, t)) {
            return BAD;
        }
        if (!current.joins(s, t)) {
            return NONE;
        }
        int all = allBelow(equationList.count);
        int missed = 0;
        for (int i = 0; i < equationList.count; i++) {
            if (!followsFrom(all & ~(1 << i), s, t)) {
                missed |= 1 << i;
            }
        }
        return missed;
    }

    public long weight(int t) {
        if (!isTerm(t)) {
            return 0;
        }
        weights.weigh(termTable, current);
        return weights.ofTerm(current, t);
    }

    public int best(int t) {
        if (!isTerm(t)) {
            return BAD;
        }
        weights.weigh(termTable, current);
        return weights.lightest(termTable, current, t);
    }

    public int written(int t, int k) {
        if (!isTerm(t)) {
            return BAD;
        }
        weights.weigh(termTable, current);
        if (k < 0 || k >= weights.ofTerm(current, t)) {
            return NONE;
        }
        return weights.symbolAt(termTable, current, t, k);
    }

    public int terms() {
        return termTable.count;
    }

    public int equations() {
        return equationList.count;
    }

    private boolean isTerm(int t) {
        return t >= 0 && t < termTable.count;
    }

    private boolean areTerms(int s, int t) {
        return isTerm(s) && isTerm(t);
    }

    private boolean isShape(int symbol, int a, int b) {
        if (symbol < 0 || symbol >= SYMBOLS) {
            return false;
        }
        if (a == NONE) {
            return b == NONE;
        }
        return isTerm(a) && (b == NONE || isTerm(b));
    }

    private void settleCurrent() {
        current.settle(termTable, equationList, allBelow(equationList.count));
    }

    /** Whether s and t are equal in the congruence of the chosen equations, one bit for each. */
    private boolean followsFrom(int chosen, int s, int t) {
        trial.settle(termTable, equationList, chosen);
        return trial.joins(s, t);
    }

    /** The choice of the equations 0 .. k - 1; k is at most 24, so the bits fit. */
    private static int allBelow(int k) {
        return (1 << k) - 1;
    }

    /** The terms by number; an argument that a term does not have is NONE. */
    private static final class TermTable {
        final int[] symbols = new int[MOST_TERMS];
        final int[] firsts = new int[MOST_TERMS];
        final int[] seconds = new int[MOST_TERMS];
        int count = 0;

        int numberOf(int symbol, int a, int b) {
            for (int t = 0; t < count; t++) {
                if (symbols[t] == symbol && firsts[t] == a && seconds[t] == b) {
                    return t;
                }
            }
            return NONE;
        }

        /** The caller has seen that there is room. */
        int add(int symbol, int a, int b) {
            symbols[count] = symbol;
            firsts[count] = a;
            seconds[count] = b;
            count++;
            return count - 1;
        }
    }

    /** Pairs of terms by number: the equations, or the disequations. */
    private static final class PairList {
        final int[] lefts;
        final int[] rights;
        int count = 0;

        PairList(int most) {
            lefts = new int[most];
            rights = new int[most];
        }

        boolean isFull() {
            return count >= lefts.length;
        }

        /** The caller has seen that there is room. */
        int add(int s, int t) {
            lefts[count] = s;
            rights[count] = t;
            count++;
            return count - 1;
        }
    }

    /** How much was there when each open level was opened. */
    private static final class LevelStack {
        final int[] termCounts = new int[MOST_LEVELS];
        final int[] equationCounts = new int[MOST_LEVELS];
        final int[] disequationCounts = new int[MOST_LEVELS];
        int depth = 0;

        /** The caller has seen that there is room. */
        void push(int termCount, int equationCount, int disequationCount) {
            termCounts[depth] = termCount;
            equationCounts[depth] = equationCount;
            disequationCounts[depth] = disequationCount;
            depth++;
        }
    }

    /** A congruence: for each term the lowest number in its class. */
    private static final class Partition {
        final int[] lowest = new int[MOST_TERMS];

        boolean joins(int s, int t) {
            return lowest[s] == lowest[t];
        }

        int classCount(int termCount) {
            int found = 0;
            for (int t = 0; t < termCount; t++) {
                if (lowest[t] == t) {
                    found++;
                }
            }
            return found;
        }

        /** Whether u has this symbol, and as many arguments, equal to these. */
        boolean fits(TermTable table, int u, int symbol, int a, int b) {
            return table.symbols[u] == symbol
                && sameArgument(table.firsts[u], a)
                && sameArgument(table.seconds[u], b);
        }

        private boolean sameArgument(int x, int y) {
            if (x == NONE || y == NONE) {
                return x == y;
            }
            return joins(x, y);
        }

        /** Becomes the congruence of the chosen equations. */
        void settle(TermTable table, PairList equations, int chosen) {
            for (int t = 0; t < table.count; t++) {
                lowest[t] = t;
            }
            for (int i = 0; i < equations.count; i++) {
                if ((chosen & (1 << i)) != 0) {
                    merge(equations.lefts[i], equations.rights[i], table.count);
                }
            }
            // Each round but the last leaves fewer classes, so there are no more than terms.
            boolean changed = true;
            for (int round = 0; round < table.count && changed; round++) {
                changed = mergeCongruent(table);
            }
        }

        /** Merges what has one symbol and equal arguments; whether there was any. */
        private boolean mergeCongruent(TermTable table) {
            boolean changed = false;
            for (int t = 0; t < table.count; t++) {
                for (int u = 0; u < t; u++) {
                    if (!joins(u, t) && congruent(table, u, t)) {
                        merge(u, t, table.count);
                        changed = true;
                    }
                }
            }
            return changed;
        }

        private boolean congruent(TermTable table, int u, int t) {
            return fits(table, u, table.symbols[t], table.firsts[t], table.seconds[t]);
        }

        private void merge(int s, int t, int termCount) {
            int stays = Math.min(lowest[s], lowest[t]);
            int goes = Math.max(lowest[s], lowest[t]);
            for (int u = 0; u < termCount; u++) {
                if (lowest[u] == goes) {
                    lowest[u] = stays;
                }
            }
        }
    }

    /** The weight of each class, held at its lowest number. */
    private static final class WeightTable {
        /** Above every weight (40 terms weigh at most 2^40 - 1); twice it and 1 fit a long. */
        private static final long UNKNOWN = 1L << 60;

        final long[] ofClass = new long[MOST_TERMS];

        void weigh(TermTable table, Partition classes) {
            Arrays.fill(ofClass, UNKNOWN);
            // No class is met twice on a way down a shortest writing, so that after as many
            // rounds as there are classes every weight has come up from below.
            boolean changed = true;
            for (int round = 0; round < table.count && changed; round++) {
                changed = lower(table, classes);
            }
        }

        private boolean lower(TermTable table, Partition classes) {
            boolean changed = false;
            for (int t = 0; t < table.count; t++) {
                long cost = costOf(table, classes, t);
                if (cost < ofClass[classes.lowest[t]]) {
                    ofClass[classes.lowest[t]] = cost;
                    changed = true;
                }
            }
            return changed;
        }

        /** 1 + the weights of the arguments of t. */
        private long costOf(TermTable table, Partition classes, int t) {
            return 1 + ofArgument(classes, table.firsts[t]) + ofArgument(classes, table.seconds[t]);
        }

        private long ofArgument(Partition classes, int a) {
            return a == NONE ? 0 : ofTerm(classes, a);
        }

        long ofTerm(Partition classes, int t) {
            return ofClass[classes.lowest[t]];
        }

        /** The best term of t. */
        int lightest(TermTable table, Partition classes, int t) {
            for (int u = 0; u < table.count; u++) {
                if (classes.joins(u, t) && costOf(table, classes, u) == ofTerm(classes, t)) {
                    return u;
                }
            }
            return t;
        }

        /** The symbol at a place that is less than the weight of t. */
        int symbolAt(TermTable table, Partition classes, int t, int place) {
            int at = lightest(table, classes, t);
            long left = place;
            // Weights fall from a term to its arguments, so the way down is shorter than this.
            for (int step = 0; step < MOST_TERMS && left > 0; step++) {
                left--;
                int next = table.firsts[at];
                long passed = ofArgument(classes, next);
                if (left >= passed) {
                    left -= passed;
                    next = table.seconds[at];
                }
                if (next == NONE) {
                    return NONE;
                }
                at = lightest(table, classes, next);
            }
            return table.symbols[at];
        }
    }
}
