import java.util.ArrayList;
import java.util.List;
import java.util.Random;

/**
 * Long runs of calls, always the same ones, on CoverJoin and on a slow model that follows the words
 * of the document by trying all ways; every answer has to be the same.
 */
public final class CoverJoinAgainstBruteForce {
    private static final int OBJECTS = 1500;
    private static final int CALLS = 512;
    private static final int FULL_OBJECTS = 300;
    private static int wrong = 0;

    private static final int EDITION = 0;
    private static final int LINE = 1;
    private static final int LINES = 2;
    private static final int RUN = 3;
    private static final int HIT = 4;
    private static final int COVERED = 5;
    private static final int ABOUT = 6;
    private static final int MAP = 7;
    private static final int JOIN = 8;
    private static final int SAME = 9;
    private static final int SHARE = 10;
    private static final int FRESH = 11;
    private static final int FALLS = 12;
    private static final int DEAD = 13;
    private static final int LEAST = 14;
    private static final int CHOSEN = 15;
    private static final int KINDS = 16;

    public static void main(String[] args) {
        for (int seed = 0; seed < OBJECTS && wrong < 20; seed++) {
            play(seed);
        }
        for (int seed = 0; seed < FULL_OBJECTS && wrong < 20; seed++) {
            compareLongTexts(seed);
            coverLongText(seed);
        }
        System.out.println(wrong == 0 ? "both give the same answers" : wrong + " answers are not the same");
        if (wrong != 0) {
            System.exit(1);
        }
    }

    private static void play(int seed) {
        Random random = new Random(seed);
        CoverJoin real = new CoverJoin();
        Model model = new Model();
        int[] args = new int[4];
        int editions = 1 + random.nextInt(8);
        int mostLines = 3 + random.nextInt(7);
        int contents = 1 + random.nextInt(4);
        int costs = random.nextBoolean() ? 4 : 100002;
        for (int call = 0; call < CALLS; call++) {
            int kind = kindOf(random, call);
            fillArguments(random, kind, args, editions);
            if (kind == LINE) {
                args[1] = random.nextInt(contents);
                if (model.lines(args[0]) >= mostLines) {
                    continue;
                }
            }
            if (kind == RUN) {
                args[1] = random.nextInt(costs) - 1;
            }
            long got = answer(real, kind, args);
            long want = model.answer(kind, args);
            if (got != want) {
                wrong++;
                System.out.println("seed " + seed + ", call " + call + " of kind " + kind + " with " + args[0] + ", "
                        + args[1] + ", " + args[2] + ", " + args[3] + " answered " + got + ", due is " + want);
                return;
            }
        }
    }

    /** Editions and lines come first, since runs and comparisons end them; runs are kept few. */
    private static int kindOf(Random random, int call) {
        if (call < 8) {
            return EDITION;
        }
        if (call < 70) {
            return LINE;
        }
        int kind = random.nextInt(KINDS);
        boolean makesRun = kind == RUN || kind == MAP || kind == JOIN;
        return makesRun && random.nextInt(4) != 0 ? HIT : kind;
    }

    /**
     * Numbers from one below the least to above the greatest that there may be; but where an object
     * keeps to few of its editions, these have many runs.
     */
    private static void fillArguments(Random random, int kind, int[] args, int editions) {
        boolean ofRun = kind == HIT || kind == COVERED || kind == ABOUT || kind == MAP || kind == JOIN
                || kind == SHARE || kind == FRESH || kind == FALLS;
        boolean ofTwoRuns = kind == JOIN || kind == FALLS;
        boolean toEdition = kind == MAP || kind == SAME || kind == FRESH;
        args[0] = random.nextInt(ofRun ? 16 : editions + 2) - 1;
        args[1] = random.nextInt(ofTwoRuns ? 16 : toEdition ? editions + 2 : 10) - 1;
        args[2] = random.nextInt(kind == SAME ? 10 : 6) - 1;
        args[3] = random.nextInt(3);
    }

    private static long answer(CoverJoin x, int kind, int[] a) {
        boolean flag = a[3] == 0;
        switch (kind) {
            case EDITION: return x.edition();
            case LINE: return x.line(a[0], a[1], a[2], flag);
            case LINES: return x.lines(a[0]);
            case RUN: return x.run(a[0], a[1]);
            case HIT: return x.hit(a[0], a[1]) ? 1 : 0;
            case COVERED: return x.covered(a[0], a[1]) ? 1 : 0;
            case ABOUT: return x.about(a[0], a[2]);
            case MAP: return x.map(a[0], a[1]);
            case JOIN: return x.join(a[0], a[1]);
            case SAME: return x.same(a[0], a[1], a[2]);
            case SHARE: return x.share(a[0], a[2], flag);
            case FRESH: return x.fresh(a[0], a[1], flag);
            case FALLS: return x.falls(a[0], a[1], a[2]);
            case DEAD: return x.dead(a[0]);
            case LEAST: return x.least(a[0]);
            default: return x.chosen();
        }
    }

    /** Texts of up to 40 lines have too many ways to walk through, so their counts are kept in a table. */
    private static void compareLongTexts(int seed) {
        Random random = new Random(seed);
        int contents = 1 + random.nextInt(12);
        int[] first = longText(random, contents);
        int[] second = longText(random, contents);
        CoverJoin x = new CoverJoin();
        addText(x, first);
        addText(x, second);
        int[] want = staying(first, second);
        int fresh = second.length;
        for (int i = 0; i < first.length; i++) {
            due("seed " + seed + ", pair of " + i, want[i], x.same(0, 1, i));
            fresh -= want[i] >= 0 ? 1 : 0;
        }
        due("seed " + seed + ", fresh", fresh, x.fresh(x.run(1, 0), 0, false));
        int run = x.run(0, 0);
        for (int i = 0; i < first.length; i += 2) {
            x.hit(run, i);
        }
        int mapped = x.map(run, 1);
        for (int i = 0; i < first.length; i++) {
            if (want[i] >= 0) {
                due("seed " + seed + ", mapped " + i, i % 2 == 0 ? 1 : 0, x.covered(mapped, want[i]) ? 1 : 0);
            }
        }
    }

    private static int[] longText(Random random, int contents) {
        int[] made = new int[30 + random.nextInt(11)];
        for (int i = 0; i < made.length; i++) {
            made[i] = random.nextInt(contents);
        }
        return made;
    }

    private static void addText(CoverJoin x, int[] contents) {
        int edition = x.edition();
        for (int content : contents) {
            x.line(edition, content, 0, false);
        }
    }

    /** Every pair of every line is tried, from the last line to the first. */
    private static int[] staying(int[] first, int[] second) {
        int[][] most = new int[first.length + 1][second.length + 1];
        int[][] pair = new int[first.length][second.length + 1];
        for (int i = first.length - 1; i >= 0; i--) {
            for (int from = second.length; from >= 0; from--) {
                most[i][from] = most[i + 1][from];
                pair[i][from] = -1;
                for (int j = second.length - 1; j >= from; j--) {
                    if (first[i] == second[j] && 1 + most[i + 1][j + 1] >= most[i][from]) {
                        most[i][from] = 1 + most[i + 1][j + 1];
                        pair[i][from] = j;
                    }
                }
            }
        }
        int[] chosen = new int[first.length];
        int from = 0;
        for (int i = 0; i < first.length; i++) {
            chosen[i] = pair[i][from];
            from = chosen[i] >= 0 ? chosen[i] + 1 : from;
        }
        return chosen;
    }

    private static void coverLongText(int seed) {
        Random random = new Random(seed);
        CoverJoin x = new CoverJoin();
        addText(x, new int[40]);
        long[] hits = new long[14];
        int[] costs = new int[14];
        int costly = random.nextBoolean() ? 3 : 100001;
        int hitEach = 2 + random.nextInt(20);
        for (int r = 0; r < 14; r++) {
            costs[r] = random.nextInt(costly);
            x.run(0, costs[r]);
            for (int k = 0; k < hitEach; k++) {
                int line = random.nextInt(40);
                x.hit(r, line);
                hits[r] |= 1L << line;
            }
        }
        long[] least = leastCover(hits, costs);
        due("seed " + seed + ", least", least[0], x.least(0));
        due("seed " + seed + ", chosen", least[1], x.chosen());
    }

    /** Every set of runs is tried, the least number first: the sum of costs and the set. */
    private static long[] leastCover(long[] hits, int[] costs) {
        long all = 0;
        for (long some : hits) {
            all |= some;
        }
        long[] best = {Long.MAX_VALUE, 0};
        for (int set = 0; set < 1 << hits.length; set++) {
            long hit = 0;
            long sum = 0;
            for (int r = 0; r < hits.length; r++) {
                if ((set >> r & 1) == 1) {
                    hit |= hits[r];
                    sum += costs[r];
                }
            }
            boolean fewer = Integer.bitCount(set) < Long.bitCount(best[1]);
            if (hit == all && (sum < best[0] || sum == best[0] && fewer)) {
                best = new long[] {sum, set};
            }
        }
        return best;
    }

    private static void due(String what, long want, long got) {
        if (got != want) {
            wrong++;
            System.out.println(what + " answered " + got + ", due is " + want);
        }
    }

    private record Line(int content, int owner, boolean generated) {
    }

    private static final class Edition {
        final List<Line> lines = new ArrayList<>();
        boolean closed = false;
    }

    private static final class Run {
        final int edition;
        final int cost;
        final boolean[] hits = new boolean[40];

        Run(int edition, int cost) {
            this.edition = edition;
            this.cost = cost;
        }
    }

    private static final class Model {
        final List<Edition> editions = new ArrayList<>();
        final List<Run> runs = new ArrayList<>();
        int chosen = 0;

        boolean hasEdition(int e) {
            return e >= 0 && e < editions.size();
        }

        boolean hasRun(int r) {
            return r >= 0 && r < runs.size();
        }

        boolean hasLine(int e, int line) {
            return line >= 0 && line < editions.get(e).lines.size();
        }

        long answer(int kind, int[] a) {
            boolean flag = a[3] == 0;
            switch (kind) {
                case EDITION: return edition();
                case LINE: return line(a[0], a[1], a[2], flag);
                case LINES: return lines(a[0]);
                case RUN: return a[1] < 0 || a[1] > 100000 ? -1 : run(a[0], a[1]);
                case HIT: return hit(a[0], a[1]);
                case COVERED: return covered(a[0], a[1]) ? 1 : 0;
                case ABOUT: return about(a[0], a[2]);
                case MAP: return map(a[0], a[1]);
                case JOIN: return join(a[0], a[1]);
                case SAME: return same(a[0], a[1], a[2]);
                case SHARE: return share(a[0], a[2], flag);
                case FRESH: return fresh(a[0], a[1], flag);
                case FALLS: return falls(a[0], a[1], a[2]);
                case DEAD: return dead(a[0]);
                case LEAST: return least(a[0]);
                default: return chosen;
            }
        }

        int edition() {
            if (editions.size() == 8) {
                return -1;
            }
            editions.add(new Edition());
            return editions.size() - 1;
        }

        int line(int e, int content, int owner, boolean generated) {
            if (!hasEdition(e) || owner < 0 || owner > 3) {
                return -1;
            }
            Edition edition = editions.get(e);
            if (edition.closed || edition.lines.size() == 40) {
                return -1;
            }
            edition.lines.add(new Line(content, owner, generated));
            return edition.lines.size() - 1;
        }

        int lines(int e) {
            return hasEdition(e) ? editions.get(e).lines.size() : -1;
        }

        int run(int e, int cost) {
            if (!hasEdition(e) || runs.size() == 14) {
                return -1;
            }
            editions.get(e).closed = true;
            runs.add(new Run(e, cost));
            return runs.size() - 1;
        }

        int hit(int r, int line) {
            if (!hasRun(r) || !hasLine(runs.get(r).edition, line) || runs.get(r).hits[line]) {
                return 0;
            }
            runs.get(r).hits[line] = true;
            return 1;
        }

        boolean covered(int r, int line) {
            return hasRun(r) && hasLine(runs.get(r).edition, line) && runs.get(r).hits[line];
        }

        int about(int r, int what) {
            if (!hasRun(r) || what < 0 || what > 2) {
                return -1;
            }
            int count = 0;
            for (boolean hit : runs.get(r).hits) {
                count += hit ? 1 : 0;
            }
            return what == 0 ? runs.get(r).edition : what == 1 ? runs.get(r).cost : count;
        }

        int map(int r, int e) {
            if (!hasRun(r) || !hasEdition(e) || runs.size() == 14) {
                return -1;
            }
            Run from = runs.get(r);
            int[] pairs = compare(from.edition, e);
            int made = run(e, from.cost);
            for (int i = 0; i < pairs.length; i++) {
                if (from.hits[i] && pairs[i] >= 0) {
                    runs.get(made).hits[pairs[i]] = true;
                }
            }
            return made;
        }

        int join(int a, int b) {
            if (!hasRun(a) || !hasRun(b) || runs.get(a).edition != runs.get(b).edition || runs.size() == 14) {
                return -1;
            }
            int made = run(runs.get(a).edition, Math.min(100000, runs.get(a).cost + runs.get(b).cost));
            for (int i = 0; i < 40; i++) {
                runs.get(made).hits[i] = runs.get(a).hits[i] || runs.get(b).hits[i];
            }
            return made;
        }

        int same(int first, int second, int line) {
            if (!hasEdition(first) || !hasEdition(second) || !hasLine(first, line)) {
                return -1;
            }
            return compare(first, second)[line];
        }

        int share(int r, int owner, boolean hits) {
            if (!hasRun(r) || owner < 0 || owner > 3) {
                return -1;
            }
            List<Line> lines = editions.get(runs.get(r).edition).lines;
            int count = 0;
            for (int i = 0; i < lines.size(); i++) {
                boolean counts = lines.get(i).owner == owner && !lines.get(i).generated;
                count += counts && (!hits || runs.get(r).hits[i]) ? 1 : 0;
            }
            return count;
        }

        int fresh(int r, int older, boolean hits) {
            if (!hasRun(r) || !hasEdition(older)) {
                return -1;
            }
            int[] pairs = compare(older, runs.get(r).edition);
            List<Line> lines = editions.get(runs.get(r).edition).lines;
            int count = 0;
            for (int i = 0; i < lines.size(); i++) {
                boolean stays = false;
                for (int pair : pairs) {
                    stays |= pair == i;
                }
                count += !stays && !lines.get(i).generated && (!hits || runs.get(r).hits[i]) ? 1 : 0;
            }
            return count;
        }

        int falls(int r, int base, int owner) {
            if (!hasRun(r) || !hasRun(base) || owner < 0 || owner > 3) {
                return -2;
            }
            int all = share(r, owner, false);
            int baseAll = share(base, owner, false);
            if (all == 0 || baseAll == 0) {
                return -1;
            }
            return share(r, owner, true) * baseAll < share(base, owner, true) * all ? 1 : 0;
        }

        int dead(int e) {
            int bits = 0;
            for (int r = 0; r < runs.size(); r++) {
                boolean adds = false;
                for (int line = 0; line < 40; line++) {
                    boolean before = false;
                    for (int q = 0; q < r; q++) {
                        before |= runs.get(q).edition == e && runs.get(q).hits[line];
                    }
                    adds |= runs.get(r).hits[line] && !before;
                }
                bits |= runs.get(r).edition == e && !adds ? 1 << r : 0;
            }
            return bits;
        }

        int least(int e) {
            if (!hasEdition(e)) {
                return -1;
            }
            int own = 0;
            for (int r = 0; r < runs.size(); r++) {
                own |= runs.get(r).edition == e ? 1 << r : 0;
            }
            int best = own;
            for (int set = own; ; set = (set - 1) & own) {
                if (hitBy(set) == hitBy(own) && better(set, best)) {
                    best = set;
                }
                if (set == 0) {
                    break;
                }
            }
            chosen = best;
            return costOf(best);
        }

        boolean better(int set, int than) {
            int costs = Integer.compare(costOf(set), costOf(than));
            int counts = Integer.compare(Integer.bitCount(set), Integer.bitCount(than));
            return costs != 0 ? costs < 0 : counts != 0 ? counts < 0 : set < than;
        }

        int costOf(int set) {
            int sum = 0;
            for (int r = 0; r < runs.size(); r++) {
                sum += (set >> r & 1) * runs.get(r).cost;
            }
            return sum;
        }

        long hitBy(int set) {
            long lines = 0;
            for (int r = 0; r < runs.size(); r++) {
                for (int line = 0; line < 40 && (set >> r & 1) == 1; line++) {
                    lines |= runs.get(r).hits[line] ? 1L << line : 0;
                }
            }
            return lines;
        }

        int[] compare(int first, int second) {
            editions.get(first).closed = true;
            editions.get(second).closed = true;
            List<Line> a = editions.get(first).lines;
            Ways ways = new Ways(a, editions.get(second).lines);
            ways.walk(0, 0, 0, new int[a.size()]);
            return ways.best;
        }
    }

    /** All ways to pair lines, one after the other, of which the best one is kept. */
    private static final class Ways {
        final List<Line> a;
        final List<Line> b;
        int[] best = null;
        int most = -1;

        Ways(List<Line> a, List<Line> b) {
            this.a = a;
            this.b = b;
        }

        void walk(int i, int from, int count, int[] pairs) {
            if (i == a.size()) {
                if (count > most || count == most && before(pairs)) {
                    most = count;
                    best = pairs.clone();
                }
                return;
            }
            for (int j = from; j < b.size(); j++) {
                if (a.get(i).content == b.get(j).content) {
                    pairs[i] = j;
                    walk(i + 1, j + 1, count + 1, pairs);
                }
            }
            pairs[i] = -1;
            walk(i + 1, from, count, pairs);
        }

        /** A line with a pair goes before one without, and the lesser pair before the greater. */
        boolean before(int[] pairs) {
            for (int i = 0; i < pairs.length; i++) {
                if (pairs[i] != best[i]) {
                    return best[i] == -1 || pairs[i] != -1 && pairs[i] < best[i];
                }
            }
            return false;
        }
    }
}
