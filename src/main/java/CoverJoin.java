/**
 * Coverage of a text in its editions: which lines runs hit, carried over to other editions by the
 * lines that stay, joined, shared out by owners, and the cheapest runs that hit all that is hit.
 *
 * <p>Sets of lines are longs and sets of runs are ints, with one bit for each number: 40 lines and
 * 14 runs fit, so no call has to make an object.
 */
public final class CoverJoin {
    public static final int NONE = -1;

    private static final int MOST_EDITIONS = 8;
    private static final int MOST_LINES = 40;
    private static final int MOST_RUNS = 14;
    private static final int OWNERS = 4;
    private static final int MOST_COST = 100000;

    private static final int FALLS_WITHOUT_LINES = -1;
    private static final int FALLS_NONE_SUCH = -2;

    /** A weight holds, from its low end, the run's bit (14 bits), a count (4 bits) and the cost. */
    private static final int COUNT_SHIFT = 14;
    private static final int COST_SHIFT = 18;
    private static final long RUN_BITS = (1L << COUNT_SHIFT) - 1L;

    private int editionCount;
    private final int[] lineCounts;
    private final boolean[] closed;
    private final int[][] contents;
    /** For each edition and owner the lines that count in shares: the generated ones are left out. */
    private final long[][] owned;

    private int runCount;
    private final int[] runEditions;
    private final int[] runCosts;
    private final long[] runHits;

    /** mostPairs[i][j]: how many pairs the lines from i on and those from j on can have. */
    private final int[][] mostPairs;
    /** The pair of each line of the first edition of the latest comparison. */
    private final int[] pairs;

    private final Candidates candidates;
    private int chosenRuns;

    /** The runs of one edition, in rows that every search for the least cover uses again. */
    private static final class Candidates {
        int count;
        final long[] hits;
        final long[] weights;
        /** reach[i]: the lines that the candidates from i on hit. */
        final long[] reach;

        Candidates() {
            count = 0;
            hits = new long[MOST_RUNS];
            weights = new long[MOST_RUNS];
            reach = new long[MOST_RUNS + 1];
        }
    }

    public CoverJoin() {
        editionCount = 0;
        lineCounts = new int[MOST_EDITIONS];
        closed = new boolean[MOST_EDITIONS];
        contents = new int[MOST_EDITIONS][MOST_LINES];
        owned = new long[MOST_EDITIONS][OWNERS];
        runCount = 0;
        runEditions = new int[MOST_RUNS];
        runCosts = new int[MOST_RUNS];
        runHits = new long[MOST_RUNS];
        mostPairs = new int[MOST_LINES + 1][MOST_LINES + 1];
        pairs = new int[MOST_LINES];
        candidates = new Candidates();
        chosenRuns = 0;
    }

    public int edition() {
        if (editionCount >= MOST_EDITIONS) {
            return NONE;
        }
        int made = editionCount;
        editionCount = made + 1;
        return made;
    }

    public int line(int edition, int content, int owner, boolean generated) {
        if (!isEdition(edition) || !isOwner(owner) || closed[edition]) {
            return NONE;
        }
        int place = lineCounts[edition];
        if (place >= MOST_LINES) {
            return NONE;
        }
        contents[edition][place] = content;
        if (!generated) {
            owned[edition][owner] |= bitOf(place);
        }
        lineCounts[edition] = place + 1;
        return place;
    }

    public int lines(int edition) {
        return isEdition(edition) ? lineCounts[edition] : NONE;
    }

    public int run(int edition, int cost) {
        if (!isEdition(edition) || cost < 0 || cost > MOST_COST) {
            return NONE;
        }
        return addRun(edition, cost, 0L);
    }

    public boolean hit(int run, int line) {
        if (!isRun(run) || !isLine(runEditions[run], line) || hitsLine(run, line)) {
            return false;
        }
        runHits[run] |= bitOf(line);
        return true;
    }

    public boolean covered(int run, int line) {
        return isRun(run) && isLine(runEditions[run], line) && hitsLine(run, line);
    }

    public int map(int run, int edition) {
        // The room is looked at first: a call that answers NONE must not count as a comparison.
        if (!isRun(run) || !isEdition(edition) || runCount >= MOST_RUNS) {
            return NONE;
        }
        compare(runEditions[run], edition);
        return addRun(edition, runCosts[run], pairsOf(runEditions[run], runHits[run]));
    }

    public int join(int a, int b) {
        if (!isRun(a) || !isRun(b) || runEditions[a] != runEditions[b]) {
            return NONE;
        }
        int cost = Math.min(runCosts[a] + runCosts[b], MOST_COST);
        return addRun(runEditions[a], cost, runHits[a] | runHits[b]);
    }

    public int same(int first, int second, int line) {
        if (!isEdition(first) || !isEdition(second) || !isLine(first, line)) {
            return NONE;
        }
        compare(first, second);
        return pairs[line];
    }

    public int share(int run, int owner, boolean hits) {
        if (!isRun(run) || !isOwner(owner)) {
            return NONE;
        }
        return hits ? hitShare(run, owner) : wholeShare(run, owner);
    }

    public int fresh(int run, int older, boolean hits) {
        if (!isRun(run) || !isEdition(older)) {
            return NONE;
        }
        int newer = runEditions[run];
        compare(older, newer);
        long freshLines = ungenerated(newer) & ~pairsOf(older, firstBits(lineCounts[older]));
        return Long.bitCount(hits ? freshLines & runHits[run] : freshLines);
    }

    public int falls(int run, int base, int owner) {
        if (!isRun(run) || !isRun(base) || !isOwner(owner)) {
            return FALLS_NONE_SUCH;
        }
        int runWhole = wholeShare(run, owner);
        int baseWhole = wholeShare(base, owner);
        if (runWhole == 0 || baseWhole == 0) {
            return FALLS_WITHOUT_LINES;
        }
        // Multiplied crosswise, the fractions are compared exactly.
        return hitShare(run, owner) * baseWhole < hitShare(base, owner) * runWhole ? 1 : 0;
    }

    public int dead(int edition) {
        if (!isEdition(edition)) {
            return 0;
        }
        long seen = 0L;
        int deadRuns = 0;
        for (int run = 0; run < runCount; run++) {
            if (runEditions[run] == edition) {
                if ((runHits[run] & ~seen) == 0L) {
                    deadRuns |= 1 << run;
                }
                seen |= runHits[run];
            }
        }
        return deadRuns;
    }

    public int least(int edition) {
        if (!isEdition(edition)) {
            return NONE;
        }
        gatherCandidates(edition);
        long best = lightest(candidates, 0, candidates.reach[0], 0L, Long.MAX_VALUE);
        chosenRuns = (int) (best & RUN_BITS);
        return (int) (best >> COST_SHIFT);
    }

    public int chosen() {
        return chosenRuns;
    }

    public int about(int run, int what) {
        if (!isRun(run)) {
            return NONE;
        }
        switch (what) {
            case 0:
                return runEditions[run];
            case 1:
                return runCosts[run];
            case 2:
                return Long.bitCount(runHits[run]);
            default:
                return NONE;
        }
    }

    private boolean isEdition(int edition) {
        return edition >= 0 && edition < editionCount;
    }

    private boolean isRun(int run) {
        return run >= 0 && run < runCount;
    }

    private boolean isLine(int edition, int line) {
        return line >= 0 && line < lineCounts[edition];
    }

    private static boolean isOwner(int owner) {
        return owner >= 0 && owner < OWNERS;
    }

    private static long bitOf(int number) {
        return 1L << number;
    }

    private static long firstBits(int count) {
        return (1L << count) - 1L;
    }

    private boolean hitsLine(int run, int line) {
        return (runHits[run] & bitOf(line)) != 0L;
    }

    private int addRun(int edition, int cost, long hits) {
        if (runCount >= MOST_RUNS) {
            return NONE;
        }
        int made = runCount;
        runEditions[made] = edition;
        runCosts[made] = cost;
        runHits[made] = hits;
        runCount = made + 1;
        closed[edition] = true;
        return made;
    }

    private int wholeShare(int run, int owner) {
        return Long.bitCount(owned[runEditions[run]][owner]);
    }

    private int hitShare(int run, int owner) {
        return Long.bitCount(owned[runEditions[run]][owner] & runHits[run]);
    }

    private long ungenerated(int edition) {
        long all = 0L;
        for (int owner = 0; owner < OWNERS; owner++) {
            all |= owned[edition][owner];
        }
        return all;
    }

    /** Finds the lines that stay from the first edition to the second; neither gets lines after it. */
    private void compare(int first, int second) {
        closed[first] = true;
        closed[second] = true;
        countPairs(first, second);
        choosePairs(first, second);
    }

    private void countPairs(int first, int second) {
        int height = lineCounts[first];
        int width = lineCounts[second];
        // The table is used again, so its edges may hold counts of a comparison before this one.
        for (int j = 0; j <= width; j++) {
            mostPairs[height][j] = 0;
        }
        for (int i = height - 1; i >= 0; i--) {
            mostPairs[i][width] = 0;
            for (int j = width - 1; j >= 0; j--) {
                mostPairs[i][j] = contents[first][i] == contents[second][j]
                        ? mostPairs[i + 1][j + 1] + 1
                        : Math.max(mostPairs[i + 1][j], mostPairs[i][j + 1]);
            }
        }
    }

    private void choosePairs(int first, int second) {
        int from = 0;
        for (int i = 0; i < lineCounts[first]; i++) {
            // A later place leaves no more lines behind it: if the least one won't do, none does.
            int place = placeOf(contents[first][i], second, from);
            if (place != NONE && mostPairs[i + 1][place + 1] + 1 == mostPairs[i][from]) {
                pairs[i] = place;
                from = place + 1;
            } else {
                pairs[i] = NONE;
            }
        }
    }

    private int placeOf(int content, int edition, int from) {
        for (int place = from; place < lineCounts[edition]; place++) {
            if (contents[edition][place] == content) {
                return place;
            }
        }
        return NONE;
    }

    /** The pairs of some lines of the first edition of the latest comparison. */
    private long pairsOf(int first, long some) {
        long found = 0L;
        for (int i = 0; i < lineCounts[first]; i++) {
            if ((some & bitOf(i)) != 0L && pairs[i] != NONE) {
                found |= bitOf(pairs[i]);
            }
        }
        return found;
    }

    private void gatherCandidates(int edition) {
        int count = 0;
        for (int run = 0; run < runCount; run++) {
            if (runEditions[run] == edition) {
                candidates.hits[count] = runHits[run];
                candidates.weights[count] = weightOf(run);
                count++;
            }
        }
        candidates.count = count;
        candidates.reach[count] = 0L;
        for (int i = count - 1; i >= 0; i--) {
            candidates.reach[i] = candidates.reach[i + 1] | candidates.hits[i];
        }
    }

    /**
     * The sum of such weights orders covers as the document does: by costs, then by how many runs,
     * then by their bits. 14 runs can't carry from one part of it into the next.
     */
    private long weightOf(int run) {
        return ((long) runCosts[run] << COST_SHIFT) | (1L << COUNT_SHIFT) | (1L << run);
    }

    /**
     * The least weight, under the best so far, of a cover that has the given weight already, misses
     * some lines still and may take the candidates from next on; the best so far if there is none.
     */
    private static long lightest(Candidates runs, int next, long missing, long weight, long best) {
        if (weight >= best) {
            return best;
        }
        if (missing == 0L) {
            return weight;
        }
        if (next >= runs.count || (missing & ~runs.reach[next]) != 0L) {
            return best;
        }
        long found = best;
        // A run that hits nothing missing is never in the least cover: without it there are fewer.
        if ((missing & runs.hits[next]) != 0L) {
            found = lightest(runs, next + 1, missing & ~runs.hits[next],
                    weight + runs.weights[next], found);
        }
        return lightest(runs, next + 1, missing, weight, found);
    }
}
