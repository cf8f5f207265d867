import java.util.Arrays;

/**
 * Sentence by sentence: each method takes one sentence of the document that names a boundary case
 * (too small, too large, empty, full, a wrap-around, a refused call) and looks at both its sides.
 */
public final class CoverJoinBoundaries {
    private static final int NONE = -1;
    private static final int[] EXTREMES = {Integer.MIN_VALUE, Integer.MIN_VALUE + 1, -2, -1,
        Integer.MAX_VALUE - 1, Integer.MAX_VALUE};

    private static String sentence = "";
    private static int wrong = 0;

    public static void main(String[] args) {
        limitsOfTheTerms();
        linesThatAnEditionGetsNoMore();
        linesThatAnEditionStillGets();
        staying();
        mappedAndJoined();
        sharesAndFreshLines();
        runsThatAddNothing();
        covers();
        promisesOfEditionsAndLines();
        promisesOfRunsAndHits();
        promisesOfMapAndJoin();
        promisesOfSameShareAndFresh();
        promisesOfFalls();
        promisesOfDeadLeastAndChosen();
        promiseOfAbout();
        useOfAnObject();
        System.out.println(wrong == 0 ? "every boundary holds" : wrong + " answers are not as due");
        if (wrong != 0) {
            System.exit(1);
        }
    }

    private static void limitsOfTheTerms() {
        editionsAreAtMostEight();
        editionsAreNumberedFromZero();
        linesAreAtMostForty();
        linesAreNumberedFromZero();
        contentIsAnInt();
        ownersAreZeroToThree();
        generatedLinesCountForNothingInShares();
        generatedLinesCountElsewhere();
        runsAreAtMostFourteen();
        runsAreNumberedFromZero();
        costsAreZeroToHundredThousand();
    }

    private static void linesThatAnEditionGetsNoMore() {
        noLineAfterRun();
        noLineAfterMap();
        noLineAfterSameInEither();
        noLineAfterSameWithoutPair();
        noLineAfterSameWithItself();
        noLineAfterFresh();
        emptyEditionsAreClosedToo();
    }

    private static void linesThatAnEditionStillGets() {
        linesAfterSameOfNoneSuch();
        linesAfterFreshOfNoneSuch();
        linesAfterMapOfNoneSuch();
        linesAfterMapWithoutRoom();
        linesAfterRunRefused();
        linesAfterRunWithoutRoom();
        linesAfterLineRefused();
        linesAfterCallsThatCompareNothing();
        linesWhereAnotherEditionIsClosed();
    }

    private static void staying() {
        pairsHaveTheSameContent();
        pairsRiseInBoth();
        pairsAreAsManyAsCanBe();
        firstLineHasPairIfItCan();
        firstLineHasTheLeastLine();
        nextLineLikewise();
        stayingFromAndToEmpty();
        stayingOfFullEditions();
        stayingAfterFullEditions();
    }

    private static void mappedAndJoined() {
        mappedHasTheSameCost();
        mappedHitsJustThePairs();
        mappedOfNothingHit();
        joinedHitsWhatOneDoes();
        joinedCostsAtMostHundredThousand();
    }

    private static void sharesAndFreshLines() {
        shareOfNoLinesAndOfAll();
        freshAgainstAnyNumber();
        freshAgainstItself();
        freshAgainstEmptyAndEqual();
        freshHaveNoPairFromThatOne();
    }

    private static void runsThatAddNothing() {
        runWithoutHitsAddsNothing();
        runOfGeneratedLineAdds();
        runsAreTakenByNumbers();
        runsBeforeAreTakenTogether();
        runsOfOthersDoNotCount();
    }

    private static void covers() {
        coverWhereNothingIsHit();
        coverHitsAllThatAnyHits();
        leastSumGoesFirst();
        fewestRunsGoSecond();
        leastNumberGoesThird();
        sumsAtTheirLimits();
    }

    private static void promisesOfEditionsAndLines() {
        newObjectHasNothing();
        ninthEditionChangesNothing();
        lineOfNoSuchEdition();
        lineOfNoSuchOwner();
        lineThatGetsNoneAnyMore();
        lineBeyondForty();
        linesOfNoneSuch();
    }

    private static void promisesOfRunsAndHits() {
        runWhereFourteenAre();
        runOfNoSuchEdition();
        runOfNoSuchCost();
        hitOfNoneSuch();
        hitThatItDoesAlready();
        coveredOfNoneSuch();
    }

    private static void promisesOfMapAndJoin() {
        mapToItsOwn();
        mapOfNoneSuch();
        mapWhereFourteenAre();
        joinOfNoneSuch();
        joinOfDifferentEditions();
        joinWhereFourteenAre();
    }

    private static void promisesOfSameShareAndFresh() {
        sameWithoutPair();
        sameOfNoneSuch();
        shareOfNoneSuch();
        freshOfNoneSuch();
        freshLeavesGeneratedOut();
    }

    private static void promisesOfFalls() {
        fallsIsExact();
        fallsBetweenNeighbours();
        fallsOfEqualFractions();
        fallsAtNothingAndAll();
        fallsWithoutLines();
        fallsOfNoneSuch();
    }

    private static void promisesOfDeadLeastAndChosen() {
        deadOfNoneSuch();
        deadAsBits();
        leastOfNoneSuch();
        chosenBeforeLeast();
        chosenOfLatestLeast();
        chosenAfterRefusedLeast();
    }

    private static void promiseOfAbout() {
        aboutNothingAndAll();
        aboutNoSuchRun();
        aboutAnotherWhat();
    }

    private static void due(String what, long want, long got) {
        if (got != want) {
            wrong++;
            System.out.println("'" + sentence + "': " + what + " answered " + got + ", due is " + want);
        }
    }

    private static void due(String what, boolean want, boolean got) {
        due(what, want ? 1 : 0, got ? 1 : 0);
    }

    private static void duePairs(String what, CoverJoin x, int first, int second, int... want) {
        for (int i = 0; i < want.length; i++) {
            due(what + ", line " + i, want[i], x.same(first, second, i));
        }
        due(what + ", no line more", NONE, x.same(first, second, want.length));
    }

    private static void dueHits(String what, CoverJoin x, int run, int... want) {
        due(what + ", how many", want.length, x.about(run, 2));
        for (int line : want) {
            due(what + ", line " + line, true, x.covered(run, line));
        }
    }

    /** Tries a line: it is what tells whether an edition gets some still. */
    private static void dueOpen(String what, CoverJoin x, int edition) {
        int place = x.lines(edition);
        due(what + ", a line", place, x.line(edition, 77, 0, false));
        due(what + ", its lines", place + 1, x.lines(edition));
    }

    private static void dueClosed(String what, CoverJoin x, int edition) {
        int before = x.lines(edition);
        due(what + ", a line", NONE, x.line(edition, 77, 0, false));
        due(what + ", its lines", before, x.lines(edition));
    }

    /** The numbers beside those from 0 up to the count: next to them, far off, and alike in their low bits. */
    private static int[] noneOf(int count) {
        int[] near = {count, count + 1, 32, 64, 256, 65536, -32, -64, -256, -65536, 1 << 30};
        int[] all = Arrays.copyOf(EXTREMES, EXTREMES.length + near.length);
        System.arraycopy(near, 0, all, EXTREMES.length, near.length);
        return Arrays.stream(all).filter(n -> n < 0 || n >= count).toArray();
    }

    /** An edition whose lines have these contents, owner 0, and aren't generated. */
    private static int text(CoverJoin x, int... contents) {
        int made = x.edition();
        for (int content : contents) {
            x.line(made, content, 0, false);
        }
        return made;
    }

    private static int[] rising(int count) {
        int[] made = new int[count];
        for (int i = 0; i < count; i++) {
            made[i] = i + 1;
        }
        return made;
    }

    private static int runOf(CoverJoin x, int edition, int cost, int... hits) {
        int made = x.run(edition, cost);
        for (int line : hits) {
            x.hit(made, line);
        }
        return made;
    }

    private static void hitFirst(CoverJoin x, int run, int count) {
        for (int line = 0; line < count; line++) {
            x.hit(run, line);
        }
    }

    private static void fillRuns(CoverJoin x, int edition) {
        for (int i = 0; i < 14; i++) {
            x.run(edition, 1);
        }
    }

    // Terms: the limits.

    private static void editionsAreAtMostEight() {
        sentence = "EDITIONS, at most 8";
        CoverJoin x = new CoverJoin();
        for (int i = 0; i < 7; i++) {
            x.edition();
        }
        due("the eighth", 7, x.edition());
        due("the ninth", NONE, x.edition());
        due("lines of the eighth", 0, x.lines(7));
        due("lines of the ninth", NONE, x.lines(8));
    }

    private static void editionsAreNumberedFromZero() {
        sentence = "EDITIONS are numbered from 0";
        CoverJoin x = new CoverJoin();
        due("none before the first", NONE, x.lines(0));
        due("the first", 0, x.edition());
        due("no second one yet", NONE, x.lines(1));
        due("the second", 1, x.edition());
        due("lines of the second", 0, x.lines(1));
    }

    private static void linesAreAtMostForty() {
        sentence = "LINES, at most 40";
        CoverJoin x = new CoverJoin();
        int full = text(x, rising(39));
        int other = x.edition();
        due("the fortieth", 39, x.line(full, 40, 0, false));
        due("the 41st", NONE, x.line(full, 41, 0, false));
        due("lines", 40, x.lines(full));
        due("another one has room", 0, x.line(other, 1, 0, false));
        int run = x.run(full, 1);
        due("hit of the fortieth", true, x.hit(run, 39));
        due("hit of the 41st", false, x.hit(run, 40));
    }

    private static void linesAreNumberedFromZero() {
        sentence = "LINES from 0";
        CoverJoin x = new CoverJoin();
        int a = x.edition();
        due("the first", 0, x.line(a, 5, 0, false));
        due("the second", 1, x.line(a, 5, 0, false));
        due("the first of another", 0, x.line(x.edition(), 5, 0, false));
        int run = x.run(a, 1);
        due("hit of line -1", false, x.hit(run, -1));
        due("hit of line 0", true, x.hit(run, 0));
    }

    private static void contentIsAnInt() {
        sentence = "a CONTENT (an int)";
        CoverJoin x = new CoverJoin();
        int a = text(x, Integer.MIN_VALUE, -1, 0, 1, Integer.MAX_VALUE);
        duePairs("all of it", x, a, text(x, Integer.MIN_VALUE, -1, 0, 1, Integer.MAX_VALUE), 0, 1, 2, 3, 4);
        int low = text(x, 1, 0, -1, 5);
        int high = text(x, 1 + (1 << 16), Integer.MIN_VALUE, Integer.MAX_VALUE, 5 - (1 << 8));
        duePairs("alike in low bits only", x, low, high, -1, -1, -1, -1);
        duePairs("alike but for the sign", x, text(x, 7, -8), text(x, -7, 8), -1, -1);
        duePairs("0 is no pair of a place without a line", x, text(x, 0), text(x, 3), -1);
    }

    private static void ownersAreZeroToThree() {
        sentence = "an OWNER 0 .. 3";
        CoverJoin x = new CoverJoin();
        int a = x.edition();
        due("owner -1", NONE, x.line(a, 1, -1, false));
        due("owner 0", 0, x.line(a, 1, 0, false));
        due("owner 3", 1, x.line(a, 1, 3, false));
        due("owner 4", NONE, x.line(a, 1, 4, false));
        int run = x.run(a, 1);
        due("share of owner 0", 1, x.share(run, 0, false));
        due("share of owner 1", 0, x.share(run, 1, false));
        due("share of owner 2", 0, x.share(run, 2, false));
        due("share of owner 3", 1, x.share(run, 3, false));
        due("share of owner 4", NONE, x.share(run, 4, false));
        due("falls for owner 3", 0, x.falls(run, run, 3));
        due("falls for owner 4", -2, x.falls(run, run, 4));
    }

    private static void generatedLinesCountForNothingInShares() {
        sentence = "GENERATED (such LINES count for nothing in shares)";
        CoverJoin x = new CoverJoin();
        int a = x.edition();
        x.line(a, 1, 2, true);
        x.line(a, 2, 2, false);
        x.line(a, 3, 2, true);
        int run = runOf(x, a, 1, 0, 2);
        int all = runOf(x, a, 1, 0, 1, 2);
        due("all", 1, x.share(run, 2, false));
        due("hit", 0, x.share(run, 2, true));
        due("hit by the other", 1, x.share(all, 2, true));
        due("0 of 1 is less than 1 of 1", 1, x.falls(run, all, 2));
    }

    private static void generatedLinesCountElsewhere() {
        sentence = "GENERATED ones are LINES: they are counted, hit and paired";
        CoverJoin x = new CoverJoin();
        int a = x.edition();
        x.line(a, 9, 0, true);
        int b = x.edition();
        x.line(b, 9, 3, true);
        due("lines", 1, x.lines(a));
        due("pair", 0, x.same(a, b, 0));
        int run = x.run(a, 1);
        due("hit", true, x.hit(run, 0));
        due("covered", true, x.covered(run, 0));
        due("how many are hit", 1, x.about(run, 2));
        dueHits("mapped", x, x.map(run, b), 0);
    }

    private static void runsAreAtMostFourteen() {
        sentence = "RUNS, at most 14";
        CoverJoin x = new CoverJoin();
        int a = text(x, 1);
        int b = text(x, 1);
        for (int i = 0; i < 13; i++) {
            x.run(i % 2 == 0 ? a : b, 1);
        }
        due("the 14th", 13, x.run(b, 1));
        due("the 15th of one", NONE, x.run(a, 1));
        due("the 15th of the other", NONE, x.run(b, 1));
        due("hit by the 14th", true, x.hit(13, 0));
        due("hit by the 15th", false, x.hit(14, 0));
        due("about the 14th", b, x.about(13, 0));
        due("about the 15th", NONE, x.about(14, 0));
    }

    private static void runsAreNumberedFromZero() {
        sentence = "RUNS are numbered from 0";
        CoverJoin x = new CoverJoin();
        int a = text(x, 1);
        int b = text(x, 1);
        due("none before the first", NONE, x.about(0, 0));
        due("the first", 0, x.run(b, 1));
        due("the next, of another edition", 1, x.run(a, 1));
        due("mapped", 2, x.map(0, a));
        due("joined", 3, x.join(1, 2));
    }

    private static void costsAreZeroToHundredThousand() {
        sentence = "a COST (0 .. 100000)";
        CoverJoin x = new CoverJoin();
        int a = text(x, 1);
        due("-1", NONE, x.run(a, -1));
        due("0", 0, x.run(a, 0));
        due("100000", 1, x.run(a, 100000));
        due("100001", NONE, x.run(a, 100001));
        due("cost of the one", 0, x.about(0, 1));
        due("cost of the other", 100000, x.about(1, 1));
    }

    // Terms: when an EDITION gets no LINES any more.

    private static void noLineAfterRun() {
        sentence = "An EDITION gets no LINES any more when it has a RUN";
        CoverJoin x = new CoverJoin();
        int a = text(x, 1);
        dueOpen("before the run", x, a);
        x.run(a, 0);
        dueClosed("after the run", x, a);
    }

    private static void noLineAfterMap() {
        sentence = "or has been compared (by map";
        CoverJoin x = new CoverJoin();
        int a = text(x, 1);
        int run = x.run(a, 1);
        int b = text(x, 1);
        dueOpen("before it", x, b);
        x.map(run, b);
        dueClosed("the one mapped to", x, b);
        dueClosed("the one mapped from", x, a);
    }

    private static void noLineAfterSameInEither() {
        sentence = "or has been compared (by same";
        CoverJoin x = new CoverJoin();
        int a = text(x, 1);
        int b = text(x, 2, 1);
        dueOpen("the first before it", x, a);
        dueOpen("the second before it", x, b);
        due("same", 1, x.same(a, b, 0));
        dueClosed("the first", x, a);
        dueClosed("the second", x, b);
    }

    private static void noLineAfterSameWithoutPair() {
        sentence = "by same also where the LINE has no pair";
        CoverJoin x = new CoverJoin();
        int a = text(x, 1);
        int b = text(x, 2);
        due("same", NONE, x.same(a, b, 0));
        dueClosed("the first", x, a);
        dueClosed("the second", x, b);
    }

    private static void noLineAfterSameWithItself() {
        sentence = "compared by same, with itself";
        CoverJoin x = new CoverJoin();
        int a = text(x, 1, 1);
        due("same", 1, x.same(a, a, 1));
        dueClosed("after it", x, a);
    }

    private static void noLineAfterFresh() {
        for (int hits = 0; hits < 2; hits++) {
            sentence = "or has been compared (by fresh, hits " + (hits == 1);
            CoverJoin x = new CoverJoin();
            int run = x.run(text(x, 1), 1);
            int older = text(x, 1);
            dueOpen("before it", x, older);
            x.fresh(run, older, hits == 1);
            dueClosed("the one against which", x, older);
        }
    }

    private static void emptyEditionsAreClosedToo() {
        sentence = "gets no LINES any more: where it has none yet";
        CoverJoin x = new CoverJoin();
        int second = x.edition();
        x.same(text(x, 1), second, 0);
        dueClosed("the second of same", x, second);
        int withRun = x.edition();
        int run = x.run(withRun, 1);
        dueClosed("with a run", x, withRun);
        int older = x.edition();
        x.fresh(run, older, true);
        dueClosed("the older of fresh", x, older);
        int target = x.edition();
        x.map(run, target);
        dueClosed("mapped to", x, target);
    }

    // Terms: when an EDITION still gets LINES.

    private static void linesAfterSameOfNoneSuch() {
        sentence = "not by a call that answers NONE because something isn't there (same)";
        CoverJoin x = new CoverJoin();
        int a = text(x, 1);
        int b = text(x, 1, 2);
        int empty = x.edition();
        x.same(a, 3, 0);
        dueOpen("no second edition", x, a);
        x.same(3, b, 0);
        dueOpen("no first edition", x, b);
        x.same(a, -1, 0);
        dueOpen("second edition -1", x, a);
        x.same(-1, b, 0);
        dueOpen("first edition -1", x, b);
        x.same(a, b, -1);
        x.same(a, b, x.lines(a));
        x.same(a, b, 40);
        dueOpen("no line of the first, the first", x, a);
        dueOpen("no line of the first, the second", x, b);
        x.same(empty, b, 0);
        dueOpen("no line in an empty first, the first", x, empty);
        dueOpen("no line in an empty first, the second", x, b);
    }

    private static void linesAfterFreshOfNoneSuch() {
        sentence = "not by a call that answers NONE because something isn't there (fresh)";
        CoverJoin x = new CoverJoin();
        int a = text(x, 1);
        due("no run at all", NONE, x.fresh(0, a, false));
        dueOpen("no run at all", x, a);
        x.run(text(x, 1), 1);
        due("run 1", NONE, x.fresh(1, a, true));
        due("run -1", NONE, x.fresh(-1, a, false));
        dueOpen("no such run", x, a);
    }

    private static void linesAfterMapOfNoneSuch() {
        sentence = "not by a call that answers NONE because something isn't there (map)";
        CoverJoin x = new CoverJoin();
        int a = text(x, 1);
        due("no run at all", NONE, x.map(0, a));
        dueOpen("no run at all", x, a);
        x.run(text(x, 1), 1);
        due("run 1", NONE, x.map(1, a));
        due("run -1", NONE, x.map(-1, a));
        dueOpen("no such run", x, a);
    }

    private static void linesAfterMapWithoutRoom() {
        sentence = "not by a call that answers NONE because there is no room (map)";
        CoverJoin x = new CoverJoin();
        fillRuns(x, text(x, 1));
        int open = text(x, 1);
        due("map", NONE, x.map(0, open));
        dueOpen("after it", x, open);
    }

    private static void linesAfterRunRefused() {
        sentence = "it has no RUN after a run of no such COST";
        CoverJoin x = new CoverJoin();
        int a = text(x, 1);
        x.run(a, -1);
        x.run(a, 100001);
        dueOpen("after it", x, a);
    }

    private static void linesAfterRunWithoutRoom() {
        sentence = "it has no RUN after a run where there are 14";
        CoverJoin x = new CoverJoin();
        fillRuns(x, text(x, 1));
        int open = text(x, 1);
        x.run(open, 1);
        dueOpen("after it", x, open);
    }

    private static void linesAfterLineRefused() {
        sentence = "a refused line takes no place";
        CoverJoin x = new CoverJoin();
        int a = text(x, 1);
        x.line(a, 5, 4, false);
        x.line(a, 5, -1, true);
        x.line(a + 1, 5, 0, false);
        due("lines", 1, x.lines(a));
        due("the next line", 1, x.line(a, 6, 0, false));
        duePairs("no content is left behind", x, text(x, 5, 6), a, -1, 1);
    }

    private static void linesAfterCallsThatCompareNothing() {
        sentence = "compared by map, same or fresh: by no other call";
        CoverJoin x = new CoverJoin();
        int a = text(x, 1);
        int run = x.run(text(x, 1), 1);
        x.lines(a);
        x.dead(a);
        x.least(a);
        x.chosen();
        x.edition();
        x.hit(run, 0);
        x.join(run, run);
        x.share(run, 0, true);
        x.falls(run, run, 0);
        dueOpen("after them", x, a);
    }

    private static void linesWhereAnotherEditionIsClosed() {
        sentence = "An EDITION that is closed closes no other one";
        CoverJoin x = new CoverJoin();
        int before = text(x, 1);
        int a = text(x, 1);
        int b = text(x, 1);
        int after = text(x, 1);
        int run = x.run(a, 1);
        x.same(a, b, 0);
        x.fresh(run, b, true);
        x.map(run, b);
        dueOpen("the one before", x, before);
        dueOpen("the one after", x, after);
        dueOpen("a new one", x, x.edition());
    }

    // Terms: STAYING.

    private static void pairsHaveTheSameContent() {
        sentence = "STAYING: pairs with the same CONTENT";
        CoverJoin x = new CoverJoin();
        duePairs("nothing alike", x, text(x, 1, 2, 3), text(x, 4, 5, 6), -1, -1, -1);
        duePairs("one alike", x, text(x, 1, 2, 3), text(x, 4, 5, 3), -1, -1, 2);
    }

    private static void pairsRiseInBoth() {
        sentence = "STAYING: rising in both";
        CoverJoin x = new CoverJoin();
        duePairs("turned round", x, text(x, 1, 2, 3), text(x, 3, 2, 1), 2, -1, -1);
        duePairs("one place for two", x, text(x, 1, 1), text(x, 1), 0, -1);
        duePairs("two places for one", x, text(x, 1), text(x, 1, 1), 0);
    }

    private static void pairsAreAsManyAsCanBe() {
        sentence = "STAYING: as many as there can be";
        CoverJoin x = new CoverJoin();
        duePairs("the first line stays out", x, text(x, 9, 1, 2), text(x, 1, 2, 9), -1, 0, 1);
        duePairs("a line between stays out", x, text(x, 1, 9, 2, 3), text(x, 1, 2, 3, 9), 0, -1, 1, 2);
        duePairs("two against one at the end", x, text(x, 5, 6, 7), text(x, 7, 5, 6), 1, 2, -1);
    }

    private static void firstLineHasPairIfItCan() {
        sentence = "STAYING: the first LINE of the first EDITION has a pair, if it can";
        CoverJoin x = new CoverJoin();
        int ab = text(x, 1, 2);
        int ba = text(x, 2, 1);
        duePairs("one of two", x, ab, ba, 1, -1);
        duePairs("one of two, turned", x, ba, ab, 1, -1);
        duePairs("the first of three alike", x, text(x, 4, 4, 4), text(x, 4), 0, -1, -1);
        duePairs("rather with a late line", x, text(x, 1, 2, 3, 4), text(x, 3, 4, 1, 2), 2, 3, -1, -1);
    }

    private static void firstLineHasTheLeastLine() {
        sentence = "STAYING: with the least LINE of the second that it can have so";
        CoverJoin x = new CoverJoin();
        duePairs("the first of three alike", x, text(x, 4), text(x, 5, 4, 4, 4), 1);
        duePairs("also before a gap", x, text(x, 1, 2), text(x, 1, 1, 2, 1, 2), 0, 2);
    }

    private static void nextLineLikewise() {
        sentence = "STAYING: then the next one likewise, and so on";
        CoverJoin x = new CoverJoin();
        duePairs("second and third", x, text(x, 1, 2, 3, 4), text(x, 1, 3, 2, 4), 0, 2, -1, 3);
        duePairs("the least for each", x, text(x, 1, 1, 1), text(x, 1, 1, 1, 1, 1), 0, 1, 2);
        duePairs("twice one of two", x, text(x, 1, 2, 7, 3, 4), text(x, 2, 1, 7, 4, 3), 1, -1, 2, 4, -1);
    }

    private static void stayingFromAndToEmpty() {
        sentence = "STAYING where an EDITION has no LINES";
        CoverJoin x = new CoverJoin();
        int a = text(x, 1, 2);
        int empty = x.edition();
        int other = x.edition();
        duePairs("to an empty one", x, a, empty, -1, -1);
        duePairs("from an empty one", x, empty, a);
        duePairs("from empty to empty", x, empty, other);
        int run = runOf(x, a, 1, 0, 1);
        dueHits("mapped to an empty one", x, x.map(run, empty));
        dueHits("mapped from an empty one", x, x.map(x.run(empty, 1), a));
        due("fresh against an empty one", 2, x.fresh(run, other, false));
    }

    private static void stayingOfFullEditions() {
        sentence = "STAYING where an EDITION has 40 LINES";
        CoverJoin x = new CoverJoin();
        int up = text(x, rising(40));
        int equal = text(x, rising(40));
        int[] turned = new int[40];
        int[] shifted = new int[40];
        for (int i = 0; i < 40; i++) {
            turned[i] = 40 - i;
            shifted[i] = i == 39 ? 1 : i + 2;
        }
        int down = text(x, turned);
        int later = text(x, shifted);
        int alike = text(x, new int[40]);
        for (int i = 0; i < 40; i++) {
            due("equal, line " + i, i, x.same(up, equal, i));
            due("itself, line " + i, i, x.same(alike, alike, i));
            due("turned round, line " + i, i == 0 ? 39 : NONE, x.same(up, down, i));
            due("shifted, line " + i, i - 1, x.same(up, later, i));
        }
        due("one line to forty alike", 0, x.same(text(x, 0), alike, 0));
        due("forty alike to one, the first", 0, x.same(alike, text(x, 0), 0));
        due("forty alike to one, the last", NONE, x.same(alike, 6, 39));
        due("line 40", NONE, x.same(up, equal, 40));
    }

    private static void stayingAfterFullEditions() {
        sentence = "STAYING of short EDITIONS, whatever has been compared before";
        int[][][] cases = {
            {{1, 2}, {2, 1}, {1, -1}},
            {{9, 1, 2}, {1, 2, 9}, {-1, 0, 1}},
            {{9, 5, 6, 5}, {7, 5}, {-1, 1, -1, -1}},
            {{1, 0, 3}, {3, 0}, {-1, 1, -1}},
        };
        for (int[][] texts : cases) {
            CoverJoin x = new CoverJoin();
            int full = text(x, new int[40]);
            int other = text(x, new int[40]);
            int first = text(x, texts[0]);
            int second = text(x, texts[1]);
            for (int i = 0; i < texts[2].length; i++) {
                due("the last of forty", 39, x.same(full, other, 39));
                due(Arrays.toString(texts[0]) + ", line " + i, texts[2][i], x.same(first, second, i));
            }
        }
    }

    // Terms: MAPPED and JOINED.

    private static void mappedHasTheSameCost() {
        sentence = "A RUN MAPPED: a new RUN of that one, of the same COST";
        CoverJoin x = new CoverJoin();
        int a = text(x, 1);
        int b = text(x, 1);
        int free = x.run(a, 0);
        int dear = x.run(a, 100000);
        due("of no cost", 0, x.about(x.map(free, b), 1));
        due("of the greatest cost", 100000, x.about(x.map(dear, b), 1));
        due("its edition", b, x.about(3, 0));
        due("the old one's edition", a, x.about(dear, 0));
    }

    private static void mappedHitsJustThePairs() {
        sentence = "A RUN MAPPED HITS just the LINES that are pairs of LINES that it HITS";
        CoverJoin x = new CoverJoin();
        int a = text(x, 1, 2, 3, 4);
        int b = text(x, 4, 1, 1, 3);
        int run = runOf(x, a, 1, 0, 1, 3);
        dueHits("a line alike that is no pair isn't hit", x, x.map(run, b), 1);
        int all = x.run(a, 1);
        hitFirst(x, all, 4);
        int mapped = x.map(all, b);
        dueHits("all are hit", x, mapped, 1, 3);
        x.hit(mapped, 0);
        dueHits("the old one hits what it did", x, all, 0, 1, 2, 3);
    }

    private static void mappedOfNothingHit() {
        sentence = "A RUN MAPPED that HITS nothing, and one that HITS all 40";
        CoverJoin x = new CoverJoin();
        int a = text(x, rising(40));
        int b = text(x, rising(40));
        dueHits("nothing", x, x.map(x.run(a, 1), b));
        int all = x.run(a, 1);
        hitFirst(x, all, 40);
        int mapped = x.map(all, b);
        due("all", 40, x.about(mapped, 2));
        due("the last", true, x.covered(mapped, 39));
    }

    private static void joinedHitsWhatOneDoes() {
        sentence = "JOINED: a new RUN that HITS what one of both does";
        CoverJoin x = new CoverJoin();
        int a = text(x, rising(40));
        int none = x.run(a, 1);
        int ends = runOf(x, a, 1, 0, 39);
        int middle = runOf(x, a, 1, 20, 39);
        dueHits("nothing and nothing", x, x.join(none, none));
        dueHits("nothing and some", x, x.join(none, ends), 0, 39);
        dueHits("some and nothing", x, x.join(ends, none), 0, 39);
        dueHits("some and some", x, x.join(ends, middle), 0, 20, 39);
        dueHits("the one is as it was", x, ends, 0, 39);
        dueHits("the other is as it was", x, middle, 20, 39);
    }

    private static void joinedCostsAtMostHundredThousand() {
        sentence = "JOINED: its COST is the sum, at most 100000";
        int[][] sums = {{0, 0, 0}, {1, 2, 3}, {99998, 1, 99999}, {99999, 1, 100000}, {50000, 50000, 100000},
            {99999, 2, 100000}, {100000, 0, 100000}, {100000, 1, 100000}, {100000, 100000, 100000}};
        for (int[] sum : sums) {
            CoverJoin x = new CoverJoin();
            int a = text(x, 1);
            int joined = x.join(x.run(a, sum[0]), x.run(a, sum[1]));
            due(sum[0] + " and " + sum[1], sum[2], x.about(joined, 1));
            due("joined again", Math.min(2 * sum[2], 100000), x.about(x.join(joined, joined), 1));
        }
    }

    // Terms: SHARES and FRESH LINES.

    private static void shareOfNoLinesAndOfAll() {
        sentence = "A SHARE of a RUN for an OWNER: of no LINES, and of 40";
        CoverJoin x = new CoverJoin();
        int empty = x.run(x.edition(), 1);
        int full = x.run(text(x, rising(40)), 1);
        hitFirst(x, full, 40);
        due("no lines", 0, x.share(empty, 0, false));
        due("no lines, hit", 0, x.share(empty, 0, true));
        due("all", 40, x.share(full, 0, false));
        due("all, hit", 40, x.share(full, 0, true));
        due("another owner", 0, x.share(full, 1, false));
        due("another owner, hit", 0, x.share(full, 1, true));
    }

    private static void freshAgainstAnyNumber() {
        sentence = "FRESH LINES against another one (of any number";
        CoverJoin x = new CoverJoin();
        int low = text(x, 1, 2);
        int middle = text(x, 2, 3, 4);
        int high = text(x, 3);
        int run = runOf(x, middle, 1, 1);
        due("against a less one", 2, x.fresh(run, low, false));
        due("against a less one, hit", 1, x.fresh(run, low, true));
        due("against a greater one", 2, x.fresh(run, high, false));
        due("against a greater one, hit", 0, x.fresh(run, high, true));
    }

    private static void freshAgainstItself() {
        sentence = "against itself there are none";
        CoverJoin x = new CoverJoin();
        int a = text(x, 1, 1, 2, 1, 2, 2);
        x.line(a, 1, 3, true);
        int run = x.run(a, 1);
        hitFirst(x, run, 7);
        due("all", 0, x.fresh(run, a, false));
        due("hit", 0, x.fresh(run, a, true));
        int empty = x.edition();
        due("of an empty one", 0, x.fresh(x.run(empty, 1), empty, false));
    }

    private static void freshAgainstEmptyAndEqual() {
        sentence = "FRESH LINES: against an EDITION without LINES all, against an equal one none";
        CoverJoin x = new CoverJoin();
        int run = x.run(text(x, rising(40)), 1);
        hitFirst(x, run, 39);
        int equal = text(x, rising(40));
        due("against an empty one", 40, x.fresh(run, x.edition(), false));
        due("against an empty one, hit", 39, x.fresh(run, x.edition(), true));
        due("against an equal one", 0, x.fresh(run, equal, false));
        due("against an equal one, hit", 0, x.fresh(run, equal, true));
        due("of an empty one", 0, x.fresh(x.run(x.edition(), 1), equal, false));
    }

    private static void freshHaveNoPairFromThatOne() {
        sentence = "FRESH LINES are those that have no pair from that one";
        CoverJoin x = new CoverJoin();
        int older = text(x, 1, 2);
        int newer = text(x, 2, 1);
        // From the older one 1 stays, so that 2 is fresh; to the older one 2 would stay.
        due("2 is fresh", 1, x.fresh(runOf(x, newer, 1, 0), older, true));
        due("1 isn't", 0, x.fresh(runOf(x, newer, 1, 1), older, true));
        due("a second one alike is fresh", 1, x.fresh(runOf(x, text(x, 1, 1), 1, 1), older, true));
    }

    // Terms: RUNS that ADD nothing.

    private static void runWithoutHitsAddsNothing() {
        sentence = "one ADDS nothing if it HITS no LINE: without hits";
        CoverJoin x = new CoverJoin();
        int a = text(x, 1);
        x.run(a, 1);
        due("the only one", 1, x.dead(a));
        x.hit(0, 0);
        due("which hits a line then", 0, x.dead(a));
        x.run(a, 1);
        due("one behind it", 2, x.dead(a));
    }

    private static void runOfGeneratedLineAdds() {
        sentence = "HITS no LINE (GENERATED ones, too) that none of those before it HITS";
        CoverJoin x = new CoverJoin();
        int a = x.edition();
        x.line(a, 1, 0, true);
        runOf(x, a, 1, 0);
        due("it hits a generated one", 0, x.dead(a));
        runOf(x, a, 1, 0);
        due("the second one hits the same", 2, x.dead(a));
    }

    private static void runsAreTakenByNumbers() {
        sentence = "RUNS of an EDITION, taken by numbers";
        CoverJoin x = new CoverJoin();
        int a = text(x, 1, 2);
        runOf(x, a, 1, 0);
        runOf(x, a, 1, 0, 1);
        runOf(x, a, 1, 0, 1);
        due("a greater one behind a small one adds", 1 << 2, x.dead(a));
        x.hit(0, 1);
        due("after a later hit of the first", 1 << 1 | 1 << 2, x.dead(a));
    }

    private static void runsBeforeAreTakenTogether() {
        sentence = "that none of those before it HITS";
        CoverJoin x = new CoverJoin();
        int a = text(x, 1, 2, 3);
        runOf(x, a, 1, 0);
        runOf(x, a, 1, 2);
        runOf(x, a, 1, 0, 2);
        runOf(x, a, 1, 0, 1, 2);
        runOf(x, a, 1, 1);
        due("dead", 1 << 2 | 1 << 4, x.dead(a));
    }

    private static void runsOfOthersDoNotCount() {
        sentence = "RUNS of an EDITION: those of another one don't count";
        CoverJoin x = new CoverJoin();
        int a = text(x, 1);
        int b = text(x, 1);
        runOf(x, a, 1, 0);
        runOf(x, b, 1, 0);
        runOf(x, b, 1, 0);
        due("dead of a", 0, x.dead(a));
        due("dead of b", 1 << 2, x.dead(b));
    }

    // Terms: a COVER and THE LEAST.

    private static void coverWhereNothingIsHit() {
        sentence = "A COVER where nothing is hit";
        CoverJoin x = new CoverJoin();
        int a = text(x, 1);
        int other = text(x, 1);
        int empty = x.edition();
        runOf(x, other, 5, 0);
        due("a cover before", 5, x.least(other));
        due("chosen before", 1, x.chosen());
        due("no runs", 0, x.least(a));
        due("no runs, chosen", 0, x.chosen());
        x.least(other);
        x.run(a, 0);
        x.run(a, 7);
        due("runs without hits", 0, x.least(a));
        due("runs without hits, chosen", 0, x.chosen());
        x.least(other);
        x.run(empty, 3);
        due("no lines", 0, x.least(empty));
        due("no lines, chosen", 0, x.chosen());
    }

    private static void coverHitsAllThatAnyHits() {
        sentence = "RUNS of it that together HIT all LINES that any of its RUNS HITS";
        CoverJoin x = new CoverJoin();
        int a = text(x, 1, 2, 3);
        x.line(a, 4, 0, true);
        int b = text(x, 1, 2, 3);
        runOf(x, a, 3, 0);
        runOf(x, b, 1, 0, 1, 2);
        runOf(x, a, 4, 3);
        due("a line that none hits needn't be, a generated one must", 7, x.least(a));
        due("chosen", 1 | 1 << 2, x.chosen());
        due("those of another one don't count", 1, x.least(b));
        due("chosen of the other", 1 << 1, x.chosen());
    }

    private static void leastSumGoesFirst() {
        sentence = "THE LEAST: the least sum of COSTS";
        CoverJoin x = new CoverJoin();
        int a = text(x, 1, 2, 3);
        runOf(x, a, 100000, 0, 1, 2);
        runOf(x, a, 33333, 0);
        runOf(x, a, 33333, 1);
        runOf(x, a, 33333, 2);
        due("three under one", 99999, x.least(a));
        due("chosen", 2 | 4 | 8, x.chosen());
        runOf(x, a, 33332, 2);
        due("a cheaper one of a greater number", 99998, x.least(a));
        due("chosen then", 2 | 4 | 16, x.chosen());
    }

    private static void fewestRunsGoSecond() {
        sentence = "THE LEAST: of these the fewest RUNS";
        CoverJoin x = new CoverJoin();
        int a = text(x, 1, 2);
        runOf(x, a, 4, 0);
        runOf(x, a, 6, 1);
        runOf(x, a, 10, 0, 1);
        due("one or two", 10, x.least(a));
        due("the one", 4, x.chosen());
        CoverJoin free = new CoverJoin();
        int b = text(free, 1, 2);
        runOf(free, b, 0, 0);
        runOf(free, b, 0, 1);
        runOf(free, b, 0, 0, 1);
        due("of no cost", 0, free.least(b));
        due("of no cost, the one", 4, free.chosen());
    }

    private static void leastNumberGoesThird() {
        sentence = "THE LEAST: of these that whose RUNS' numbers, as bits, are the least number";
        CoverJoin x = new CoverJoin();
        int a = text(x, 1, 2, 3);
        runOf(x, a, 1, 0);
        runOf(x, a, 1, 0, 1);
        runOf(x, a, 1, 2);
        runOf(x, a, 1, 1, 2);
        due("sum", 2, x.least(a));
        due("1 and 2 rather than 0 and 3", 2 | 4, x.chosen());
        CoverJoin alike = new CoverJoin();
        int b = text(alike, 1);
        for (int i = 0; i < 14; i++) {
            runOf(alike, b, 9, 0);
        }
        due("fourteen alike", 9, alike.least(b));
        due("the first of them", 1, alike.chosen());
    }

    private static void sumsAtTheirLimits() {
        sentence = "THE LEAST: sums of 14 COSTS at their limits";
        CoverJoin dear = new CoverJoin();
        int a = text(dear, rising(40));
        CoverJoin free = new CoverJoin();
        int b = text(free, rising(40));
        for (int i = 0; i < 14; i++) {
            runOf(dear, a, 100000, i, 39 - i);
            runOf(free, b, 0, i, 39 - i);
        }
        due("the greatest sum", 1400000, dear.least(a));
        due("all are needed", (1 << 14) - 1, dear.chosen());
        due("the least sum", 0, free.least(b));
        due("all are needed, of no cost", (1 << 14) - 1, free.chosen());
    }

    // Promises 1 to 4.

    private static void newObjectHasNothing() {
        sentence = "No editions, no runs";
        CoverJoin x = new CoverJoin();
        due("lines", NONE, x.lines(0));
        due("line", NONE, x.line(0, 0, 0, false));
        due("run", NONE, x.run(0, 0));
        due("hit", false, x.hit(0, 0));
        due("covered", false, x.covered(0, 0));
        due("map", NONE, x.map(0, 0));
        due("join", NONE, x.join(0, 0));
        due("same", NONE, x.same(0, 0, 0));
        due("share", NONE, x.share(0, 0, false));
        due("fresh", NONE, x.fresh(0, 0, false));
        due("falls", -2, x.falls(0, 0, 0));
        due("dead", 0, x.dead(0));
        due("least", NONE, x.least(0));
        due("chosen", 0, x.chosen());
        due("about", NONE, x.about(0, 0));
        due("edition", 0, x.edition());
        due("run after it", 0, x.run(0, 0));
        due("a second object is new", NONE, new CoverJoin().lines(0));
    }

    private static void ninthEditionChangesNothing() {
        sentence = "A new EDITION without LINES: its number; NONE if there are 8";
        CoverJoin x = new CoverJoin();
        for (int i = 0; i < 8; i++) {
            due("edition", i, x.edition());
            due("it has no lines", 0, x.lines(i));
            x.line(i, i, 0, false);
        }
        for (int i = 0; i < 3; i++) {
            due("refused", NONE, x.edition());
        }
        for (int i = 0; i < 8; i++) {
            due("lines after it", 1, x.lines(i));
        }
        due("line of a ninth", NONE, x.line(8, 1, 0, false));
        due("run of a ninth", NONE, x.run(8, 1));
        due("the eighth is open", 1, x.line(7, 1, 0, false));
    }

    private static void lineOfNoSuchEdition() {
        sentence = "line: NONE if there is none such";
        CoverJoin x = new CoverJoin();
        int a = text(x);
        int b = text(x);
        for (int number : noneOf(2)) {
            due("edition " + number, NONE, x.line(number, 1, 0, false));
        }
        due("nothing was added to a", 0, x.lines(a));
        due("nothing was added to b", 0, x.lines(b));
        due("the last edition", 0, x.line(b, 1, 0, false));
    }

    private static void lineOfNoSuchOwner() {
        sentence = "line: NONE if there is no such OWNER";
        CoverJoin x = new CoverJoin();
        int a = text(x);
        for (int number : noneOf(4)) {
            due("owner " + number, NONE, x.line(a, 1, number, false));
            due("owner " + number + ", generated", NONE, x.line(a, 1, number, true));
        }
        due("nothing was added", 0, x.lines(a));
        for (int owner = 0; owner < 4; owner++) {
            due("owner " + owner, owner, x.line(a, 1, owner, false));
        }
    }

    private static void lineThatGetsNoneAnyMore() {
        sentence = "line: NONE if it gets none any more";
        CoverJoin x = new CoverJoin();
        int a = text(x, 1);
        int run = runOf(x, a, 1, 0);
        dueClosed("once", x, a);
        dueClosed("again", x, a);
        due("all of its share", 1, x.share(run, 0, false));
        due("hit of the refused line", false, x.hit(run, 1));
    }

    private static void lineBeyondForty() {
        sentence = "line: NONE if it has 40";
        CoverJoin x = new CoverJoin();
        int a = text(x, rising(40));
        for (int i = 0; i < 30; i++) {
            due("refused", NONE, x.line(a, 50 + i, 1, false));
        }
        int run = x.run(a, 1);
        due("lines", 40, x.lines(a));
        due("share of their owner", 0, x.share(run, 1, false));
        due("share of the first forty", 40, x.share(run, 0, false));
        due("the next edition has room", 0, x.line(x.edition(), 1, 0, false));
    }

    private static void linesOfNoneSuch() {
        sentence = "How many LINES an EDITION has; NONE if there is none such";
        CoverJoin x = new CoverJoin();
        text(x);
        text(x, rising(40));
        due("no lines", 0, x.lines(0));
        due("forty", 40, x.lines(1));
        for (int number : noneOf(2)) {
            due("edition " + number, NONE, x.lines(number));
        }
    }

    // Promises 5 to 7.

    private static void runWhereFourteenAre() {
        sentence = "A new RUN: its number; NONE if there are 14";
        CoverJoin x = new CoverJoin();
        int a = text(x, 1);
        for (int i = 0; i < 14; i++) {
            due("run", i, x.run(a, i));
        }
        for (int i = 0; i < 3; i++) {
            due("refused", NONE, x.run(a, 50));
        }
        for (int i = 0; i < 14; i++) {
            due("the cost of " + i, i, x.about(i, 1));
        }
        due("run 14", NONE, x.about(14, 1));
        due("hit by run 13", true, x.hit(13, 0));
    }

    private static void runOfNoSuchEdition() {
        sentence = "run: NONE if there is no such EDITION";
        CoverJoin x = new CoverJoin();
        text(x, 1);
        text(x, 1);
        for (int number : noneOf(2)) {
            due("edition " + number, NONE, x.run(number, 1));
        }
        due("no number was used", 0, x.run(1, 1));
        due("its edition", 1, x.about(0, 0));
    }

    private static void runOfNoSuchCost() {
        sentence = "run: NONE if there is no such COST";
        CoverJoin x = new CoverJoin();
        text(x, 1);
        for (int cost : noneOf(100001)) {
            due("cost " + cost, NONE, x.run(0, cost));
        }
        due("no number was used", 0, x.run(0, 0));
        due("the greatest", 1, x.run(0, 100000));
    }

    private static void hitOfNoneSuch() {
        sentence = "A RUN HITS a LINE; false if there are none such";
        CoverJoin x = new CoverJoin();
        int a = text(x, 1, 2, 3);
        int longer = text(x, rising(40));
        int empty = x.edition();
        int run = x.run(a, 1);
        int full = x.run(longer, 1);
        int none = x.run(empty, 1);
        for (int number : noneOf(3)) {
            due("run " + number, false, x.hit(number, 0));
            due("line " + number, false, x.hit(run, number));
        }
        for (int number : noneOf(40)) {
            due("of forty, line " + number, false, x.hit(full, number));
        }
        for (int number : noneOf(0)) {
            due("of none, line " + number, false, x.hit(none, number));
        }
        due("of none, line 0", false, x.hit(none, 0));
        dueHits("nothing was hit in three", x, run);
        dueHits("nothing was hit in forty", x, full);
        dueHits("nothing was hit in none", x, none);
        due("the last of three", true, x.hit(run, 2));
        due("the last of forty", true, x.hit(full, 39));
    }

    private static void hitThatItDoesAlready() {
        sentence = "hit: false if it does already";
        CoverJoin x = new CoverJoin();
        int a = text(x, rising(40));
        int run = x.run(a, 1);
        int other = x.run(a, 1);
        for (int line = 0; line < 40; line++) {
            due("first", true, x.hit(run, line));
            due("again", false, x.hit(run, line));
        }
        due("it still hits it", true, x.covered(run, 39));
        due("forty", 40, x.about(run, 2));
        due("another run doesn't yet", true, x.hit(other, 39));
        int joined = x.join(run, other);
        due("a joined one does already", false, x.hit(joined, 39));
        due("a mapped one does already", false, x.hit(x.map(other, a), 39));
    }

    private static void coveredOfNoneSuch() {
        sentence = "Whether it does; false if there are none such";
        CoverJoin x = new CoverJoin();
        int a = text(x, 1, 2, 3);
        int run = x.run(a, 1);
        hitFirst(x, run, 3);
        int full = x.run(text(x, rising(40)), 1);
        hitFirst(x, full, 40);
        for (int number : noneOf(2)) {
            due("run " + number, false, x.covered(number, 0));
        }
        for (int number : noneOf(3)) {
            due("line " + number, false, x.covered(run, number));
        }
        for (int number : noneOf(40)) {
            due("of forty, line " + number, false, x.covered(full, number));
        }
        due("the last of three", true, x.covered(run, 2));
        due("the first of forty", true, x.covered(full, 0));
        due("the last of forty", true, x.covered(full, 39));
    }

    // Promises 8 and 9.

    private static void mapToItsOwn() {
        sentence = "A RUN is MAPPED to an EDITION (perhaps its own)";
        CoverJoin x = new CoverJoin();
        int a = text(x, 5, 5, 6, 5);
        int run = runOf(x, a, 8, 1, 3);
        int mapped = x.map(run, a);
        due("a new run", 1, mapped);
        due("its edition", a, x.about(mapped, 0));
        due("its cost", 8, x.about(mapped, 1));
        dueHits("its hits", x, mapped, 1, 3);
        x.hit(mapped, 0);
        dueHits("they are two runs", x, run, 1, 3);
    }

    private static void mapOfNoneSuch() {
        sentence = "map: NONE if there are none such";
        CoverJoin x = new CoverJoin();
        int a = text(x, 1);
        int b = text(x, 1);
        x.run(a, 1);
        for (int number : noneOf(1)) {
            due("run " + number, NONE, x.map(number, b));
        }
        for (int number : noneOf(2)) {
            due("edition " + number, NONE, x.map(0, number));
        }
        due("no number was used", 1, x.map(0, b));
    }

    private static void mapWhereFourteenAre() {
        sentence = "map: NONE if there are 14 RUNS";
        CoverJoin x = new CoverJoin();
        int a = text(x, 1);
        int b = text(x, 1);
        runOf(x, a, 6, 0);
        for (int i = 1; i < 14; i++) {
            due("map", i, x.map(i - 1, i % 2 == 0 ? a : b));
        }
        due("refused", NONE, x.map(0, a));
        due("refused, to another", NONE, x.map(0, b));
        due("the last one's edition", b, x.about(13, 0));
        due("the last one's cost", 6, x.about(13, 1));
        dueHits("the last one", x, 13, 0);
    }

    private static void joinOfNoneSuch() {
        sentence = "join: NONE if there are none such";
        CoverJoin x = new CoverJoin();
        int a = text(x, 1);
        x.run(a, 1);
        x.run(a, 1);
        for (int number : noneOf(2)) {
            due("first " + number, NONE, x.join(number, 0));
            due("second " + number, NONE, x.join(0, number));
            due("both " + number, NONE, x.join(number, number));
        }
        due("no number was used", 2, x.join(0, 1));
    }

    private static void joinOfDifferentEditions() {
        sentence = "join: NONE if they are of different EDITIONS";
        CoverJoin x = new CoverJoin();
        int a = text(x, 1);
        int b = text(x, 1);
        x.run(a, 1);
        x.run(b, 1);
        due("a and b", NONE, x.join(0, 1));
        due("b and a", NONE, x.join(1, 0));
        due("mapped", 2, x.map(0, b));
        due("then of one", 3, x.join(2, 1));
        due("its edition", b, x.about(3, 0));
    }

    private static void joinWhereFourteenAre() {
        sentence = "join: NONE if there are 14";
        CoverJoin x = new CoverJoin();
        int a = text(x, 1, 2);
        runOf(x, a, 1, 0);
        runOf(x, a, 1, 1);
        for (int i = 2; i < 14; i++) {
            due("join", i, x.join(0, 1));
        }
        due("refused", NONE, x.join(0, 1));
        due("refused, with the last", NONE, x.join(13, 13));
        dueHits("the first is as it was", x, 0, 0);
        dueHits("the last", x, 13, 0, 1);
    }

    // Promises 10 to 12.

    private static void sameWithoutPair() {
        sentence = "The LINE of the second that is the pair; NONE if there is none";
        CoverJoin x = new CoverJoin();
        int a = text(x, 1, 2, 3);
        int b = text(x, 3, 1);
        due("a pair", 1, x.same(a, b, 0));
        due("no content alike", NONE, x.same(a, b, 1));
        due("alike, but no pair", NONE, x.same(a, b, 2));
        due("alike, the other way round", 2, x.same(b, a, 0));
    }

    private static void sameOfNoneSuch() {
        sentence = "same: NONE if there is none such";
        CoverJoin x = new CoverJoin();
        int a = text(x, 1, 2, 3);
        int b = text(x, 1, 2, 3, 4);
        int empty = x.edition();
        for (int number : noneOf(3)) {
            due("first " + number, NONE, x.same(number, b, 0));
            due("second " + number, NONE, x.same(a, number, 0));
            due("line " + number, NONE, x.same(a, b, number));
            due("line of itself " + number, NONE, x.same(a, a, number));
        }
        due("the last line", 2, x.same(a, b, 2));
        due("a line that only the second has", NONE, x.same(a, b, 3));
        due("a line of none", NONE, x.same(empty, a, 0));
        due("a line of none, after a pair there", NONE, x.same(empty, b, 2));
    }

    private static void shareOfNoneSuch() {
        sentence = "share: NONE if there is no such RUN or OWNER";
        CoverJoin x = new CoverJoin();
        int a = x.edition();
        x.line(a, 1, 3, false);
        int run = runOf(x, a, 1, 0);
        for (int number : noneOf(1)) {
            due("run " + number, NONE, x.share(number, 3, true));
            due("run " + number + ", all", NONE, x.share(number, 3, false));
        }
        for (int number : noneOf(4)) {
            due("owner " + number, NONE, x.share(run, number, true));
            due("owner " + number + ", all", NONE, x.share(run, number, false));
        }
        due("owner 3", 1, x.share(run, 3, true));
        due("owner 0", 0, x.share(run, 0, false));
    }

    private static void freshOfNoneSuch() {
        sentence = "fresh: NONE if there are none such";
        CoverJoin x = new CoverJoin();
        int a = text(x, 1, 2);
        int b = text(x, 1);
        x.run(a, 1);
        for (int number : noneOf(1)) {
            due("run " + number, NONE, x.fresh(number, b, true));
            due("run " + number + ", all", NONE, x.fresh(number, b, false));
        }
        for (int number : noneOf(2)) {
            due("older " + number, NONE, x.fresh(0, number, true));
            due("older " + number + ", all", NONE, x.fresh(0, number, false));
        }
        due("fresh", 1, x.fresh(0, b, false));
    }

    private static void freshLeavesGeneratedOut() {
        sentence = "FRESH LINES against an EDITION that aren't GENERATED";
        CoverJoin x = new CoverJoin();
        int a = x.edition();
        for (int owner = 0; owner < 4; owner++) {
            x.line(a, 1 + owner, owner, false);
            x.line(a, 11 + owner, owner, true);
        }
        int run = x.run(a, 1);
        int all = x.run(a, 1);
        hitFirst(x, all, 8);
        int empty = x.edition();
        due("of any owner", 4, x.fresh(run, empty, false));
        due("none is hit", 0, x.fresh(run, empty, true));
        due("all are hit", 4, x.fresh(all, empty, true));
        int older = x.edition();
        x.line(older, 1, 2, true);
        due("a generated one of the older is a pair", 3, x.fresh(all, older, true));
        CoverJoin only = new CoverJoin();
        only.edition();
        only.line(0, 1, 0, true);
        due("only generated ones", 0, only.fresh(only.run(0, 1), only.edition(), false));
    }

    // Promise 13.

    /** Whether hit of whole lines falls against baseHit of baseWhole. */
    private static int fallsOf(int hit, int whole, int baseHit, int baseWhole) {
        CoverJoin x = new CoverJoin();
        int run = x.run(text(x, rising(whole)), 1);
        int base = x.run(text(x, rising(baseWhole)), 1);
        hitFirst(x, run, hit);
        hitFirst(x, base, baseHit);
        return x.falls(run, base, 0);
    }

    private static void fallsIsExact() {
        sentence = "Whether a SHARE, as a fraction, is less (1), or not (0)";
        due("1/40 and 1/39", 1, fallsOf(1, 40, 1, 39));
        due("1/39 and 1/40", 0, fallsOf(1, 39, 1, 40));
        due("13/40 and 1/3", 1, fallsOf(13, 40, 1, 3));
        due("1/3 and 13/40", 0, fallsOf(1, 3, 13, 40));
        due("2/3 and 27/40", 1, fallsOf(2, 3, 27, 40));
        due("27/40 and 2/3", 0, fallsOf(27, 40, 2, 3));
        due("37/39 and 38/40", 1, fallsOf(37, 39, 38, 40));
        due("38/40 and 37/39", 0, fallsOf(38, 40, 37, 39));
        due("19/39 and 1/2", 1, fallsOf(19, 39, 1, 2));
        due("fewer lines, a greater share", 0, fallsOf(1, 1, 39, 40));
        due("more lines, a less share", 1, fallsOf(39, 40, 1, 1));
    }

    /** For each share and each other number of lines: the greatest share that isn't above it, and the next one. */
    private static void fallsBetweenNeighbours() {
        sentence = "shared out exactly: the nearest fractions of all that there are";
        for (int whole = 1; whole <= 40; whole++) {
            for (int baseWhole = 1; baseWhole <= 40; baseWhole++) {
                for (int hit = 0; hit <= whole; hit++) {
                    int below = hit * baseWhole / whole;
                    String what = hit + "/" + whole + " and of " + baseWhole + " lines ";
                    due(what + below, 0, fallsOf(hit, whole, below, baseWhole));
                    if (below < baseWhole) {
                        due(what + (below + 1), 1, fallsOf(hit, whole, below + 1, baseWhole));
                    }
                }
            }
        }
    }

    private static void fallsOfEqualFractions() {
        sentence = "less than that of another one: equal ones aren't";
        due("1/3 and 13/39", 0, fallsOf(1, 3, 13, 39));
        due("13/39 and 1/3", 0, fallsOf(13, 39, 1, 3));
        due("20/40 and 1/2", 0, fallsOf(20, 40, 1, 2));
        due("40/40 and 1/1", 0, fallsOf(40, 40, 1, 1));
        CoverJoin x = new CoverJoin();
        int run = runOf(x, text(x, 1, 2), 1, 0);
        due("itself", 0, x.falls(run, run, 0));
    }

    private static void fallsAtNothingAndAll() {
        sentence = "a SHARE as a fraction: nothing and all";
        due("0/1 and 0/40", 0, fallsOf(0, 1, 0, 40));
        due("0/40 and 1/40", 1, fallsOf(0, 40, 1, 40));
        due("1/40 and 0/40", 0, fallsOf(1, 40, 0, 40));
        due("39/40 and 40/40", 1, fallsOf(39, 40, 40, 40));
        due("40/40 and 39/40", 0, fallsOf(40, 40, 39, 40));
        due("0/40 and 40/40", 1, fallsOf(0, 40, 40, 40));
    }

    private static void fallsWithoutLines() {
        sentence = "- 1 if one of them has no LINES";
        due("0/0 and 1/1", -1, fallsOf(0, 0, 1, 1));
        due("1/1 and 0/0", -1, fallsOf(1, 1, 0, 0));
        due("0/1 and 0/0", -1, fallsOf(0, 1, 0, 0));
        due("0/0 and 0/0", -1, fallsOf(0, 0, 0, 0));
        CoverJoin x = new CoverJoin();
        int some = runOf(x, text(x, 1), 1, 0);
        int a = x.edition();
        x.line(a, 1, 0, true);
        int generated = runOf(x, a, 1, 0);
        due("only generated ones", -1, x.falls(generated, some, 0));
        due("against only generated ones", -1, x.falls(some, generated, 0));
        due("lines of another owner", -1, x.falls(some, some, 1));
    }

    private static void fallsOfNoneSuch() {
        sentence = "- 2 if there are none such";
        CoverJoin x = new CoverJoin();
        int run = runOf(x, text(x, 1), 1, 0);
        for (int number : noneOf(1)) {
            due("run " + number, -2, x.falls(number, run, 0));
            due("base " + number, -2, x.falls(run, number, 0));
            due("run " + number + ", no lines", -2, x.falls(number, run, 1));
            due("base " + number + ", no lines", -2, x.falls(run, number, 1));
        }
        for (int number : noneOf(4)) {
            due("owner " + number, -2, x.falls(run, run, number));
        }
        due("the last owner", -1, x.falls(run, run, 3));
    }

    // Promises 14 to 16.

    private static void deadOfNoneSuch() {
        sentence = "RUNS that ADD nothing, as bits; 0 if there is none such";
        CoverJoin x = new CoverJoin();
        int a = text(x, 1);
        x.run(a, 1);
        for (int number : noneOf(1)) {
            due("edition " + number, 0, x.dead(number));
        }
        due("an edition without runs", 0, x.dead(text(x, 1)));
        due("the edition", 1, x.dead(a));
    }

    private static void deadAsBits() {
        sentence = "RUNS of an EDITION that ADD nothing, as bits: from run 0 to run 13";
        CoverJoin x = new CoverJoin();
        int a = text(x, 1);
        fillRuns(x, a);
        due("all of 14", (1 << 14) - 1, x.dead(a));
        x.hit(13, 0);
        due("all but the last", (1 << 13) - 1, x.dead(a));
        x.hit(0, 0);
        due("all but the first", (1 << 14) - 2, x.dead(a));
    }

    private static void leastOfNoneSuch() {
        sentence = "THE LEAST COVER: its sum of COSTS; NONE if there is none such";
        CoverJoin x = new CoverJoin();
        int a = text(x, 1);
        runOf(x, a, 4, 0);
        for (int number : noneOf(1)) {
            due("edition " + number, NONE, x.least(number));
        }
        due("the edition", 4, x.least(a));
    }

    private static void chosenBeforeLeast() {
        sentence = "chosen: 0 before it";
        CoverJoin x = new CoverJoin();
        due("at first", 0, x.chosen());
        runOf(x, text(x, 1), 4, 0);
        x.dead(0);
        due("without least", 0, x.chosen());
        due("a least that is NONE", NONE, x.least(1));
        due("after it", 0, x.chosen());
    }

    private static void chosenOfLatestLeast() {
        sentence = "The RUNS of the latest least";
        CoverJoin x = new CoverJoin();
        int a = text(x, 1);
        int b = text(x, 1);
        for (int i = 0; i < 13; i++) {
            runOf(x, a, i == 0 ? 1 : 2, 0);
        }
        runOf(x, b, 5, 0);
        x.least(a);
        due("run 0", 1, x.chosen());
        due("asked again", 1, x.chosen());
        x.least(b);
        due("run 13", 1 << 13, x.chosen());
        CoverJoin y = new CoverJoin();
        text(y, 1);
        runOf(y, 0, 5, 0);
        y.least(0);
        runOf(y, 0, 4, 0);
        due("a cheaper run comes later", 1, y.chosen());
        y.least(0);
        due("then asked for", 2, y.chosen());
    }

    private static void chosenAfterRefusedLeast() {
        sentence = "chosen: of the latest least that wasn't NONE";
        CoverJoin x = new CoverJoin();
        text(x, 1);
        runOf(x, 0, 5, 0);
        x.least(0);
        for (int number : noneOf(1)) {
            x.least(number);
            due("after least of " + number, 1, x.chosen());
        }
        due("a least that is 0", 0, x.least(x.edition()));
        due("after it", 0, x.chosen());
    }

    // Promise 17.

    private static void aboutNothingAndAll() {
        sentence = "Of a RUN: 0 its EDITION, 1 its COST, 2 how many LINES it HITS";
        CoverJoin x = new CoverJoin();
        for (int i = 0; i < 7; i++) {
            x.edition();
        }
        int last = text(x, rising(40));
        int first = x.run(0, 0);
        int full = x.run(last, 100000);
        hitFirst(x, full, 40);
        due("the first edition", 0, x.about(first, 0));
        due("the least cost", 0, x.about(first, 1));
        due("no hits", 0, x.about(first, 2));
        due("the last edition", 7, x.about(full, 0));
        due("the greatest cost", 100000, x.about(full, 1));
        due("forty hits", 40, x.about(full, 2));
    }

    private static void aboutNoSuchRun() {
        sentence = "about: NONE if there is none such";
        CoverJoin x = new CoverJoin();
        x.run(text(x, 1), 1);
        for (int number : noneOf(1)) {
            for (int what = 0; what < 3; what++) {
                due("run " + number + ", " + what, NONE, x.about(number, what));
            }
        }
        fillRuns(x, 0);
        due("run 13", 0, x.about(13, 0));
        due("run 14", NONE, x.about(14, 0));
    }

    private static void aboutAnotherWhat() {
        sentence = "about: NONE for another what";
        CoverJoin x = new CoverJoin();
        runOf(x, text(x, 1), 1, 0);
        for (int number : noneOf(3)) {
            due("what " + number, NONE, x.about(0, number));
        }
        due("what 2", 1, x.about(0, 2));
    }

    // What it is: how long an object is used.

    private static void useOfAnObject() {
        sentence = "An object is used for at most 512 calls";
        CoverJoin x = new CoverJoin();
        int calls = 0;
        for (int e = 0; e < 8; e++, calls++) {
            due("edition", e, x.edition());
        }
        for (int e = 0; e < 8; e++) {
            for (int i = 0; i < 40; i++, calls++) {
                due("line", i, x.line(e, i, i % 4, false));
            }
        }
        for (int r = 0; r < 14; r++, calls++) {
            due("run", r, x.run(7, 100000));
        }
        for (int r = 0; r < 14; r++, calls += 3) {
            due("hit of its own line", true, x.hit(r, r));
            due("hit of another", true, x.hit(r, 14 + r));
            due("hit of the last", true, x.hit(r, 39));
        }
        for (; calls < 510; calls++) {
            due("same", calls % 40, x.same(calls % 7, 7, calls % 40));
        }
        due("the 511th call, least", 1400000, x.least(7));
        due("the 512th call, chosen", (1 << 14) - 1, x.chosen());
    }
}
