import java.lang.reflect.Member;
import java.lang.reflect.Modifier;
import java.util.Arrays;
import java.util.TreeSet;

/** Each promise of the document: ordinary inputs, the edges that it names, and wrong inputs. */
public final class CoverJoinPromises {
    private static final int[] WRONG = {-1, -2, 99, Integer.MIN_VALUE, Integer.MAX_VALUE};
    private static int wrong = 0;

    public static void main(String[] args) {
        face();
        newObject();
        edition();
        line();
        lineAfterClosing();
        lines();
        run();
        hit();
        covered();
        map();
        mapRefused();
        join();
        same();
        sameTies();
        sameReusesItsTable();
        share();
        fresh();
        falls();
        dead();
        least();
        leastTies();
        chosen();
        about();
        System.out.println(wrong == 0 ? "all promises hold" : wrong + " answers are not as due");
        if (wrong != 0) {
            System.exit(1);
        }
    }

    private static void due(String what, long want, long got) {
        if (got != want) {
            wrong++;
            System.out.println(what + " answered " + got + ", due is " + want);
        }
    }

    private static void due(String what, boolean want, boolean got) {
        due(what, want ? 1 : 0, got ? 1 : 0);
    }

    /** An edition whose lines have these contents, owner 0, and aren't generated. */
    private static int text(CoverJoin x, int... contents) {
        int made = x.edition();
        for (int content : contents) {
            x.line(made, content, 0, false);
        }
        return made;
    }

    private static int runOf(CoverJoin x, int edition, int cost, int... hits) {
        int made = x.run(edition, cost);
        for (int line : hits) {
            x.hit(made, line);
        }
        return made;
    }

    private static void duePairs(String what, CoverJoin x, int first, int second, int... want) {
        int[] got = new int[want.length];
        for (int i = 0; i < want.length; i++) {
            got[i] = x.same(first, second, i);
        }
        if (!Arrays.equals(want, got)) {
            wrong++;
            System.out.println(what + ": pairs " + Arrays.toString(got) + ", due are " + Arrays.toString(want));
        }
    }

    private static void dueHits(String what, CoverJoin x, int run, int... want) {
        TreeSet<Integer> due = new TreeSet<>();
        for (int line : want) {
            due.add(line);
        }
        TreeSet<Integer> got = new TreeSet<>();
        for (int line = -1; line <= 64; line++) {
            if (x.covered(run, line)) {
                got.add(line);
            }
        }
        if (!due.equals(got)) {
            wrong++;
            System.out.println(what + ": hits " + got + ", due are " + due);
        }
    }

    private static void face() {
        TreeSet<String> seen = new TreeSet<>();
        collect(seen, CoverJoin.class.getDeclaredMethods());
        collect(seen, CoverJoin.class.getDeclaredFields());
        String want = "[NONE, about, chosen, covered, dead, edition, falls, fresh, hit, join, least, line, lines, map,"
                + " run, same, share]";
        if (!seen.toString().equals(want)) {
            wrong++;
            System.out.println("the face is " + seen);
        }
        due("the class is public and final", Modifier.PUBLIC | Modifier.FINAL, CoverJoin.class.getModifiers());
        due("NONE", -1, CoverJoin.NONE);
    }

    private static void collect(TreeSet<String> seen, Member[] members) {
        for (Member member : members) {
            if (!Modifier.isPrivate(member.getModifiers()) && !member.isSynthetic()) {
                seen.add(member.getName());
            }
        }
    }

    private static void newObject() {
        CoverJoin x = new CoverJoin();
        due("new lines", -1, x.lines(0));
        due("new line", -1, x.line(0, 1, 0, false));
        due("new run", -1, x.run(0, 1));
        due("new about", -1, x.about(0, 0));
        due("new dead", 0, x.dead(0));
        due("new least", -1, x.least(0));
        due("new chosen", 0, x.chosen());
        CoverJoin y = new CoverJoin();
        y.edition();
        due("objects share nothing", -1, x.lines(0));
    }

    private static void edition() {
        CoverJoin x = new CoverJoin();
        for (int i = 0; i < 8; i++) {
            due("edition", i, x.edition());
            due("lines of a new one", 0, x.lines(i));
        }
        due("ninth edition", -1, x.edition());
        due("ninth edition again", -1, x.edition());
        due("lines of the ninth", -1, x.lines(8));
        due("line in the eighth", 0, x.line(7, 1, 0, false));
    }

    private static void line() {
        CoverJoin x = new CoverJoin();
        x.edition();
        x.edition();
        due("owner 4", -1, x.line(0, 1, 4, false));
        for (int number : WRONG) {
            due("no such owner", -1, x.line(0, 1, number, false));
            due("no such edition", -1, x.line(number, 1, 0, false));
        }
        due("edition 2", -1, x.line(2, 1, 0, false));
        due("wrong ones added nothing", 0, x.lines(0));
        for (int i = 0; i < 40; i++) {
            due("line", i, x.line(0, Integer.MIN_VALUE + i, i % 4, i % 3 == 0));
        }
        due("41st line", -1, x.line(0, 1, 0, false));
        due("lines", 40, x.lines(0));
        due("the other edition", 0, x.line(1, Integer.MAX_VALUE, 3, true));
        runOf(x, 0, 1, 39);
        due("the last line is hit", true, x.covered(0, 39));
    }

    private static void lineAfterClosing() {
        CoverJoin x = new CoverJoin();
        int a = text(x, 1);
        int b = text(x, 2);
        int empty = text(x);
        int c = text(x, 3);
        x.same(a, b, 1);
        x.same(a, b, -1);
        x.same(a, 9, 0);
        x.same(9, a, 0);
        x.same(empty, a, 0);
        x.run(a, -1);
        x.run(a, 100001);
        x.fresh(0, a, true);
        x.map(0, a);
        x.dead(a);
        x.least(a);
        due("a is open still", 1, x.line(a, 5, 0, false));
        due("b is open still", 1, x.line(b, 6, 0, false));
        due("empty is open still", 0, x.line(empty, 6, 0, false));
        due("no pair", -1, x.same(a, b, 0));
        due("the first was compared", -1, x.line(a, 5, 0, false));
        due("the second was compared", -1, x.line(b, 5, 0, false));
        int run = x.run(c, 1);
        due("it has a run", -1, x.line(c, 5, 0, false));
        x.fresh(run, 9, true);
        x.fresh(9, empty, true);
        due("older is open still", 1, x.line(empty, 7, 0, false));
        due("fresh against empty", 1, x.fresh(run, empty, false));
        due("older was compared", -1, x.line(empty, 7, 0, false));
        int d = text(x, 3);
        x.map(run, d);
        due("mapped to", -1, x.line(d, 5, 0, false));
        int e = text(x, 3);
        due("itself", 0, x.same(e, e, 0));
        due("compared with itself", -1, x.line(e, 5, 0, false));
        int f = text(x);
        due("against an empty one", -1, x.same(e, f, 0));
        due("the empty one was compared", -1, x.line(f, 5, 0, false));
    }

    private static void lines() {
        CoverJoin x = new CoverJoin();
        text(x, 4, 4, 4);
        text(x);
        due("three lines", 3, x.lines(0));
        due("no lines", 0, x.lines(1));
        due("no edition 2", -1, x.lines(2));
        for (int number : WRONG) {
            due("lines of none such", -1, x.lines(number));
        }
    }

    private static void run() {
        CoverJoin x = new CoverJoin();
        text(x, 1);
        text(x, 1);
        due("cost -1", -1, x.run(0, -1));
        due("cost 100001", -1, x.run(0, 100001));
        due("least cost", -1, x.run(0, Integer.MIN_VALUE));
        due("most cost", -1, x.run(0, Integer.MAX_VALUE));
        due("edition 2", -1, x.run(2, 1));
        for (int number : WRONG) {
            due("run of none such", -1, x.run(number, 1));
        }
        due("run 0", 0, x.run(0, 0));
        due("run 1", 1, x.run(1, 100000));
        due("its edition", 1, x.about(1, 0));
        for (int i = 2; i < 14; i++) {
            due("run", i, x.run(0, i));
        }
        due("15th run", -1, x.run(0, 1));
        due("15th run of another", -1, x.run(1, 1));
        due("no run 14", -1, x.about(14, 0));
        int open = text(x);
        due("15th run of a new one", -1, x.run(open, 1));
        due("which is open still", 0, x.line(open, 1, 0, false));
    }

    private static void hit() {
        CoverJoin x = new CoverJoin();
        int a = text(x, 1, 2, 3);
        int b = text(x, 1);
        int first = x.run(a, 1);
        int second = x.run(b, 1);
        due("hit", true, x.hit(first, 2));
        due("hit again", false, x.hit(first, 2));
        due("no line 3", false, x.hit(first, 3));
        due("no line 1 in b", false, x.hit(second, 1));
        due("no line 64 (it is no line 0)", false, x.hit(second, 64));
        due("no run 2", false, x.hit(2, 0));
        for (int number : WRONG) {
            due("hit by none such", false, x.hit(number, 0));
            due("hit of none such", false, x.hit(first, number));
        }
        due("the other run", true, x.hit(second, 0));
        dueHits("first", x, first, 2);
        dueHits("second", x, second, 0);
        CoverJoin full = new CoverJoin();
        text(full, new int[40]);
        full.run(0, 0);
        for (int i = 39; i >= 0; i--) {
            due("hit of forty", true, full.hit(0, i));
        }
        due("hits of forty", 40, full.about(0, 2));
        due("no line 40", false, full.hit(0, 40));
    }

    private static void covered() {
        CoverJoin x = new CoverJoin();
        text(x, 1, 2, 3);
        runOf(x, 0, 1, 0, 2);
        x.run(0, 1);
        due("line 0", true, x.covered(0, 0));
        due("line 1", false, x.covered(0, 1));
        due("line 2", true, x.covered(0, 2));
        due("line 3", false, x.covered(0, 3));
        due("line 64", false, x.covered(0, 64));
        due("another run", false, x.covered(1, 0));
        due("run 2", false, x.covered(2, 0));
        for (int number : WRONG) {
            due("covered by none such", false, x.covered(number, 0));
            due("covered of none such", false, x.covered(0, number));
        }
    }

    private static void map() {
        CoverJoin x = new CoverJoin();
        int a = text(x, 1, 2, 3, 4);
        int b = text(x, 9, 4, 2, 3, 3);
        int run = runOf(x, a, 77, 0, 1, 3);
        int mapped = x.map(run, b);
        due("map", 1, mapped);
        due("its edition", b, x.about(mapped, 0));
        due("its cost", 77, x.about(mapped, 1));
        dueHits("only pairs of lines that are hit", x, mapped, 2);
        x.hit(run, 2);
        dueHits("a later hit isn't carried over", x, mapped, 2);
        dueHits("then it is", x, x.map(run, b), 2, 3);
        int back = x.map(mapped, a);
        dueHits("back", x, back, 1);
        int own = x.map(run, a);
        due("its own edition", a, x.about(own, 0));
        dueHits("its own lines", x, own, 0, 1, 2, 3);
        x.hit(mapped, 0);
        due("hits of the mapped one", 2, x.about(mapped, 2));
        due("hits of the old one", 4, x.about(run, 2));
        int empty = text(x);
        int none = x.map(run, empty);
        due("to an empty one", empty, x.about(none, 0));
        due("hits there", 0, x.about(none, 2));
        CoverJoin twice = new CoverJoin();
        text(twice, 6, 6, 7, 6, 6);
        runOf(twice, 0, 1, 1, 4);
        dueHits("lines alike", twice, twice.map(0, 0), 1, 4);
    }

    private static void mapRefused() {
        CoverJoin x = new CoverJoin();
        int a = text(x, 1);
        int open = text(x, 1);
        x.run(a, 1);
        for (int number : WRONG) {
            due("map of none such", -1, x.map(number, open));
            due("map to none such", -1, x.map(0, number));
        }
        due("run 1 isn't there", -1, x.map(1, open));
        due("edition 2 isn't there", -1, x.map(0, 2));
        due("nothing was made", -1, x.about(1, 0));
        for (int i = 1; i < 14; i++) {
            due("map", i, x.map(0, a));
        }
        due("no room", -1, x.map(0, open));
        due("no comparison without room", 1, x.line(open, 2, 0, false));
    }

    private static void join() {
        CoverJoin x = new CoverJoin();
        text(x, 1, 2, 3, 4);
        text(x, 1, 2, 3, 4);
        runOf(x, 0, 60000, 0, 1);
        runOf(x, 0, 40000, 1, 2);
        runOf(x, 0, 40001, 3);
        runOf(x, 1, 5, 0);
        due("join", 4, x.join(0, 1));
        due("its edition", 0, x.about(4, 0));
        due("its cost", 100000, x.about(4, 1));
        dueHits("joined", x, 4, 0, 1, 2);
        due("join of more", 5, x.join(2, 0));
        due("at most", 100000, x.about(5, 1));
        dueHits("joined of more", x, 5, 0, 1, 3);
        due("other editions", -1, x.join(0, 3));
        due("other editions, turned", -1, x.join(3, 0));
        due("no run 6", -1, x.join(0, 6));
        due("no run 6, turned", -1, x.join(6, 0));
        for (int number : WRONG) {
            due("join of none such", -1, x.join(number, 0));
            due("join with none such", -1, x.join(0, number));
        }
        due("nothing was made", 6, x.join(3, 3));
        due("with itself, its cost", 10, x.about(6, 1));
        due("with itself, its edition", 1, x.about(6, 0));
        dueHits("with itself", x, 6, 0);
        x.hit(0, 3);
        dueHits("a later hit isn't joined", x, 4, 0, 1, 2);
        for (int i = 7; i < 14; i++) {
            due("join", i, x.join(0, 1));
        }
        due("no room", -1, x.join(0, 1));
    }

    private static void same() {
        CoverJoin x = new CoverJoin();
        int a = text(x, 1, 2, 1, 3, 2);
        int b = text(x, 2, 1, 9, 2, 3);
        duePairs("a to b", x, a, b, 1, 3, -1, 4, -1);
        duePairs("b to a", x, b, a, 1, 2, -1, 4, -1);
        duePairs("a to a", x, a, a, 0, 1, 2, 3, 4);
        int empty = text(x);
        duePairs("to an empty one", x, a, empty, -1, -1, -1, -1, -1);
        due("line 5", -1, x.same(a, b, 5));
        due("a line of an empty one", -1, x.same(empty, a, 0));
        for (int number : WRONG) {
            due("same from none such", -1, x.same(number, b, 0));
            due("same to none such", -1, x.same(a, number, 0));
            due("same of none such", -1, x.same(a, b, number));
        }
        due("edition 3", -1, x.same(a, 3, 0));
        due("owners and generated lines make no difference", 0, ownedPair());
    }

    private static int ownedPair() {
        CoverJoin x = new CoverJoin();
        x.edition();
        x.edition();
        x.line(0, Integer.MIN_VALUE, 0, true);
        x.line(1, Integer.MIN_VALUE, 3, false);
        return x.same(0, 1, 0);
    }

    private static void sameTies() {
        CoverJoin x = new CoverJoin();
        int ab = text(x, 1, 2);
        int ba = text(x, 2, 1);
        duePairs("the first line has a pair", x, ab, ba, 1, -1);
        duePairs("the first line has a pair, turned", x, ba, ab, 1, -1);
        int aaa = text(x, 1, 1, 1);
        int xaa = text(x, 5, 1, 1);
        duePairs("the first lines have pairs", x, aaa, xaa, 1, 2, -1);
        duePairs("the least lines of the second", x, xaa, aaa, -1, 0, 1);
        int abc = text(x, 7, 1, 2, 3);
        int late = text(x, 1, 2, 3, 7);
        duePairs("as many as can be", x, abc, late, -1, 0, 1, 2);
        int aba = text(x, 1, 2, 1, 4, 2);
        duePairs("the least place that keeps the most", x, aba, ab, 0, 1, -1, -1, -1);
        duePairs("and turned", x, ab, aba, 0, 1);
    }

    private static void sameReusesItsTable() {
        CoverJoin x = new CoverJoin();
        int full = text(x, new int[40]);
        int other = text(x, new int[40]);
        int small = text(x, 1, 0, 3);
        int pair = text(x, 3, 0);
        due("last of forty", 39, x.same(full, other, 39));
        duePairs("after a great one", x, small, pair, -1, 1, -1);
        duePairs("after a great one, turned", x, pair, small, 2, -1);
        due("forty to one", 1, x.same(full, small, 0));
        due("forty to one, the last", -1, x.same(full, small, 39));
    }

    private static void share() {
        CoverJoin x = new CoverJoin();
        x.edition();
        x.line(0, 1, 0, false);
        x.line(0, 1, 1, false);
        x.line(0, 1, 1, true);
        x.line(0, 1, 1, false);
        x.line(0, 1, 2, true);
        runOf(x, 0, 1, 1, 2, 4);
        due("owner 0, hit", 0, x.share(0, 0, true));
        due("owner 0, all", 1, x.share(0, 0, false));
        due("owner 1, hit", 1, x.share(0, 1, true));
        due("owner 1, all", 2, x.share(0, 1, false));
        due("owner 2, hit", 0, x.share(0, 2, true));
        due("owner 2, all", 0, x.share(0, 2, false));
        due("owner 3, all", 0, x.share(0, 3, false));
        due("owner 4", -1, x.share(0, 4, false));
        due("run 1", -1, x.share(1, 0, true));
        for (int number : WRONG) {
            due("share of none such", -1, x.share(number, 0, true));
            due("share for none such", -1, x.share(0, number, true));
        }
    }

    private static void fresh() {
        CoverJoin x = new CoverJoin();
        int old = text(x, 1, 2, 3);
        int now = x.edition();
        x.line(now, 1, 0, false);
        x.line(now, 8, 1, false);
        x.line(now, 8, 2, true);
        x.line(now, 3, 3, true);
        x.line(now, 7, 3, false);
        x.line(now, 2, 0, false);
        int run = runOf(x, now, 1, 0, 1, 2);
        // 1 and 2 stay rather than 1 and 3: the earlier line of the old one has a pair.
        due("fresh, hit", 1, x.fresh(run, old, true));
        due("fresh, all", 2, x.fresh(run, old, false));
        due("against itself", 0, x.fresh(run, now, false));
        due("against itself, hit", 0, x.fresh(run, now, true));
        int before = runOf(x, old, 1, 1, 2);
        due("against a later one", 1, x.fresh(before, now, false));
        due("against a later one, hit", 1, x.fresh(before, now, true));
        int empty = text(x);
        due("against an empty one", 4, x.fresh(run, empty, false));
        due("against an empty one, hit", 2, x.fresh(run, empty, true));
        due("of an empty one", 0, x.fresh(x.run(empty, 1), now, false));
        for (int number : WRONG) {
            due("fresh of none such", -1, x.fresh(number, old, true));
            due("fresh against none such", -1, x.fresh(run, number, false));
        }
        due("edition 3", -1, x.fresh(run, 3, true));
        due("run 3", -1, x.fresh(3, old, true));
        freshGoesFromTheOlder();
    }

    private static void freshGoesFromTheOlder() {
        CoverJoin x = new CoverJoin();
        int older = text(x, 1, 2);
        int newer = text(x, 2, 1);
        int run = runOf(x, newer, 1, 0);
        // From the older one line 0 stays, so 2 is fresh; the other way round 1 would be.
        due("the pairs come from the older one", 1, x.fresh(run, older, true));
    }

    private static void falls() {
        CoverJoin x = new CoverJoin();
        text(x, 1, 2, 3);
        text(x, 1, 2, 3, 4, 5, 6);
        int third = runOf(x, 0, 1, 0);
        int twoSixths = runOf(x, 1, 1, 4, 5);
        int threeSixths = runOf(x, 1, 1, 0, 1, 2);
        int nothing = x.run(0, 1);
        due("equal fractions", 0, x.falls(third, twoSixths, 0));
        due("equal fractions, turned", 0, x.falls(twoSixths, third, 0));
        due("less", 1, x.falls(third, threeSixths, 0));
        due("more", 0, x.falls(threeSixths, third, 0));
        due("nothing", 1, x.falls(nothing, third, 0));
        due("nothing, turned", 0, x.falls(third, nothing, 0));
        due("itself", 0, x.falls(third, third, 0));
        due("no lines", -1, x.falls(third, third, 1));
        int generated = x.edition();
        x.line(generated, 1, 0, true);
        x.line(generated, 1, 1, false);
        int last = runOf(x, generated, 1, 0);
        due("only generated lines", -1, x.falls(last, third, 0));
        due("only generated lines, turned", -1, x.falls(third, last, 0));
        due("one of them has none", -1, x.falls(third, last, 1));
        due("one of them has none, turned", -1, x.falls(last, third, 1));
        due("owner 4", -2, x.falls(third, third, 4));
        due("run 5", -2, x.falls(5, third, 0));
        due("base 5", -2, x.falls(third, 5, 0));
        for (int number : WRONG) {
            due("falls of none such", -2, x.falls(number, third, 0));
            due("falls against none such", -2, x.falls(third, number, 0));
            due("falls for none such", -2, x.falls(third, third, number));
            due("none such goes before no lines", -2, x.falls(number, third, 1));
        }
    }

    private static void dead() {
        CoverJoin x = new CoverJoin();
        x.edition();
        x.line(0, 1, 0, false);
        x.line(0, 1, 0, true);
        x.line(0, 1, 0, false);
        text(x, 1, 2);
        due("no runs", 0, x.dead(0));
        runOf(x, 0, 1, 0);
        x.run(0, 1);
        runOf(x, 1, 1, 1);
        runOf(x, 0, 1, 0, 1);
        runOf(x, 0, 1, 0, 1);
        runOf(x, 0, 1, 2);
        runOf(x, 1, 1, 1);
        runOf(x, 1, 1, 0, 1);
        due("dead", 1 << 1 | 1 << 4, x.dead(0));
        due("dead of another", 1 << 6, x.dead(1));
        due("dead of edition 2", 0, x.dead(2));
        for (int number : WRONG) {
            due("dead of none such", 0, x.dead(number));
        }
        CoverJoin full = new CoverJoin();
        full.edition();
        for (int i = 0; i < 14; i++) {
            full.run(0, 1);
        }
        due("all are dead", (1 << 14) - 1, full.dead(0));
    }

    private static void least() {
        CoverJoin x = new CoverJoin();
        x.edition();
        x.line(0, 1, 0, false);
        x.line(0, 1, 0, false);
        x.line(0, 1, 0, true);
        x.line(0, 1, 0, false);
        text(x, 1);
        due("no runs", 0, x.least(0));
        runOf(x, 0, 9, 0, 1, 2);
        runOf(x, 1, 1, 0);
        runOf(x, 0, 4, 0);
        runOf(x, 0, 4, 1, 2);
        due("two are cheaper than one", 8, x.least(0));
        due("these", 1 << 2 | 1 << 3, x.chosen());
        due("of another", 1, x.least(1));
        due("that one", 1 << 1, x.chosen());
        runOf(x, 0, 0, 2);
        due("one of no cost isn't needed", 8, x.least(0));
        due("still these", 1 << 2 | 1 << 3, x.chosen());
        runOf(x, 0, 2, 1);
        due("generated lines are to be hit, too", 6, x.least(0));
        due("so these", 1 << 2 | 1 << 4 | 1 << 5, x.chosen());
        due("edition 2", -1, x.least(2));
        for (int number : WRONG) {
            due("least of none such", -1, x.least(number));
        }
        CoverJoin full = new CoverJoin();
        text(full, new int[14]);
        for (int i = 0; i < 14; i++) {
            runOf(full, 0, 100000, i);
        }
        due("the greatest sum", 1400000, full.least(0));
        due("all runs", (1 << 14) - 1, full.chosen());
    }

    private static void leastTies() {
        CoverJoin x = new CoverJoin();
        text(x, 1, 2, 3);
        runOf(x, 0, 2, 0);
        runOf(x, 0, 2, 1);
        runOf(x, 0, 1, 2);
        runOf(x, 0, 5, 0, 1, 2);
        due("the same sum", 5, x.least(0));
        due("fewer runs, though a greater number", 1 << 3, x.chosen());
        runOf(x, 0, 5, 0, 1, 2);
        due("the same sum again", 5, x.least(0));
        due("the least number", 1 << 3, x.chosen());
        CoverJoin y = new CoverJoin();
        text(y, 1, 2);
        runOf(y, 0, 1, 0);
        runOf(y, 0, 1, 0, 1);
        runOf(y, 0, 0, 0);
        runOf(y, 0, 0, 1);
        due("costs go before counts and numbers", 0, y.least(0));
        due("these two", 1 << 2 | 1 << 3, y.chosen());
        leastNumber();
    }

    private static void leastNumber() {
        CoverJoin x = new CoverJoin();
        text(x, 1, 2, 3);
        runOf(x, 0, 1, 0);
        runOf(x, 0, 1, 0, 1);
        runOf(x, 0, 1, 2);
        runOf(x, 0, 1, 1, 2);
        // {1, 2} = 6 is less than {0, 3} = 9, though run 0 comes first.
        due("two ways", 2, x.least(0));
        due("the least of two ways", 6, x.chosen());
        CoverJoin y = new CoverJoin();
        text(y, 1, 2, 3);
        runOf(y, 0, 1, 0, 1);
        runOf(y, 0, 1, 0);
        runOf(y, 0, 1, 1, 2);
        runOf(y, 0, 1, 2);
        // {0, 2} = 5, {1, 2} = 6 and {0, 3} = 9.
        due("three ways", 2, y.least(0));
        due("the least of three ways", 5, y.chosen());
    }

    private static void chosen() {
        CoverJoin x = new CoverJoin();
        due("before least", 0, x.chosen());
        x.least(0);
        due("after a least that was NONE", 0, x.chosen());
        text(x, 1);
        text(x, 1);
        runOf(x, 0, 3, 0);
        due("without least", 0, x.chosen());
        x.least(0);
        due("after least", 1, x.chosen());
        runOf(x, 0, 2, 0);
        due("a new run changes nothing", 1, x.chosen());
        x.least(7);
        x.least(-1);
        due("nor does a least that is NONE", 1, x.chosen());
        x.least(0);
        due("the latest", 2, x.chosen());
        x.least(1);
        due("of an edition without runs", 0, x.chosen());
    }

    private static void about() {
        CoverJoin x = new CoverJoin();
        text(x, 1);
        text(x, 1, 2, 3);
        runOf(x, 1, 42, 0, 2);
        due("edition", 1, x.about(0, 0));
        due("cost", 42, x.about(0, 1));
        due("hits", 2, x.about(0, 2));
        due("what 3", -1, x.about(0, 3));
        due("run 1", -1, x.about(1, 0));
        for (int number : WRONG) {
            due("about none such", -1, x.about(number, 1));
            due("about another what", -1, x.about(0, number));
        }
        x.hit(0, 1);
        due("hits", 3, x.about(0, 2));
    }
}
