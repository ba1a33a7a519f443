/** "An object is used for at most 512 calls": all of them answer as due. Also promises 1 and 16 (count). */
public final class CallsBoundariesTest {
    private static final int LEAST = Integer.MIN_VALUE;
    private static final int MOST = Integer.MAX_VALUE;
    private static final int NONE = PackageKeeper.NONE;
    private static final int FULL = PackageKeeper.FULL;
    private static final int REFUSED = PackageKeeper.REFUSED;
    private static final String[] NAMES = {"a", "b", "c", "d", "e", "f", "g", "h"};

    private CallsBoundariesTest() {
    }

    public static void main(String[] args) {
        newObject();
        objectsAreApart();
        countsAtTheirEdges();
        countOfReleases();
        countOfRoots();
        countOfGenerations();
        countOfBytes();
        allFeeds();
        allReleases();
        allInstalls();
        allRollbacks();
        allWants();
        allMatches();
        allOfAFullIndex();
        Check.finish();
    }

    private static void counts(Probe probe, int... dues) {
        for (int what = 0; what < dues.length; what++) {
            probe.count(what, dues[what]);
        }
    }

    /** So many calls are left then, the last of which is the 512th. */
    private static void spendAllBut(Probe probe, int left) {
        while (probe.calls() < Probe.MOST_CALLS - left) {
            probe.count(6, REFUSED);
        }
    }

    /** "An empty index, no roots, one generation without releases." */
    private static void newObject() {
        Probe probe = new Probe();
        counts(probe, 0, 0, 0, 1, 0, 0);
        probe.bestIs();
        probe.currentIs();
        probe.stepsAre();
        probe.rollback(-1, NONE);
        probe.rollback(0, NONE);
        probe.drop(0, NONE);
        probe.unwant("a", NONE);
        probe.owner("p", NONE);
        counts(probe, 0, 0, 0, 1, 0, 0);
        probe.release("a 1.0.0", 0);
    }

    private static void objectsAreApart() {
        Probe one = Probe.withReleases("a 1.0.0 owns p").wanting("a *");
        one.install(0, -1, 1);
        one.put("1.0.0");
        Probe other = new Probe();
        counts(other, 0, 0, 0, 1, 0, 0);
        other.release("b 1.0.0", 0);
        other.owner("p", NONE);
        counts(one, 1, 1, 1, 2, 1, 5);
    }

    /** "REFUSED for others": what is one below the least and one above the most. */
    private static void countsAtTheirEdges() {
        Probe probe = Probe.withReleases("a 1.0.0", "a 1.0.1", "b 1.0.0 needs c *", "c 1.0.0", "c 1.0.1")
                .wanting("b *");
        probe.install(0, -1, 2);
        probe.put("1.0.0 1.0.1");
        int[] others = {LEAST, LEAST + 1, -2, -1, 6, 7, 256, MOST - 1, MOST};
        for (int what : others) {
            probe.count(what, REFUSED);
        }
        counts(probe, 5, 1, 2, 2, 1, 11);
        String before = probe.picture();
        for (int what : others) {
            probe.count(what);
        }
        probe.isAs(before, "count");
        Check.due("compare", probe.compare(), -1);
    }

    /** "What 0: releases in the index". */
    private static void countOfReleases() {
        Probe probe = new Probe();
        for (int number = 0; number < 32; number++) {
            probe.count(0, number);
            probe.release(NAMES[number % 8] + " 1.0." + number / 8, number);
        }
        probe.count(0, 32);
        probe.release("a 2.0.0", FULL);
        probe.count(0, 32);
        probe.drop(0, 31);
        probe.count(0, 31);
        probe.drop(0, NONE);
        probe.count(0, 31);
    }

    /** "1: roots". */
    private static void countOfRoots() {
        Probe probe = new Probe();
        for (int n = 0; n < 6; n++) {
            probe.count(1, n);
            probe.want(NAMES[n] + " *", n + 1);
        }
        probe.count(1, 6);
        probe.want("a 1.0.0", 6);
        probe.count(1, 6);
        probe.want("g *", FULL);
        probe.count(1, 6);
        probe.unwant("a", 5);
        probe.count(1, 5);
        probe.unwant("a", NONE);
        probe.count(1, 5);
    }

    /** "2: releases of the current generation, 3: generations kept, 4: those that install has made so far". */
    private static void countOfGenerations() {
        Probe probe = Probe.withReleases("a 1.0.0", "b 1.0.0").wanting("a *");
        counts(probe, 2, 1, 0, 1, 0);
        probe.install(0, 0, PackageKeeper.CUT);
        counts(probe, 2, 1, 0, 1, 0);
        probe.install(0, -1, 1);
        counts(probe, 2, 1, 1, 2, 1);
        probe.want("b *", 2);
        probe.install(0, -1, 2);
        counts(probe, 2, 2, 2, 3, 2);
        probe.install(0, -1, 2);
        counts(probe, 2, 2, 2, 4, 3);
        probe.install(1, -1, 2);
        counts(probe, 2, 2, 2, 4, 4);
        probe.install(1, -1, 2);
        counts(probe, 2, 2, 2, 4, 5);
        // "also if they are gone".
        probe.rollback(-1, 2);
        counts(probe, 2, 2, 2, 3, 5);
        probe.rollback(-1, 2);
        counts(probe, 2, 2, 2, 2, 5);
        probe.rollback(0, PackageKeeper.CUT);
        counts(probe, 2, 2, 2, 2, 5);
        probe.rollback(-1, 2);
        counts(probe, 2, 2, 2, 1, 5);
        probe.rollback(-1, NONE);
        counts(probe, 2, 2, 2, 1, 5);
        probe.install(0, -1, 2);
        counts(probe, 2, 2, 2, 2, 6);
    }

    /** "5: bytes on the TAPE". */
    private static void countOfBytes() {
        Probe probe = new Probe();
        for (int fed = 0; fed < 400; fed += 20) {
            probe.count(5, fed);
            Check.due("feed", probe.feed(0, 0, 0, 0, 0), fed + 20);
        }
        probe.count(5, 400);
        Check.due("feed", probe.feed(0, 0, 0, 0, 0), FULL);
        probe.count(5, 400);
        Check.due("end", probe.end(399), 399);
        probe.count(5, 399);
        Check.due("end", probe.end(400), REFUSED);
        probe.count(5, 399);
        Check.due("match", probe.match(), PackageKeeper.FAULT);
        probe.count(5, 0);
    }

    private static void allFeeds() {
        Probe probe = new Probe();
        for (int call = 1; call <= Probe.MOST_CALLS; call++) {
            Check.due("feed as call " + call, probe.feed(call, 0, -1, 0, call), call <= 20 ? 20 * call : FULL);
        }
        Probe other = new Probe();
        for (int call = 1; call <= Probe.MOST_CALLS; call += 2) {
            Check.due("feed as call " + call, other.feed(0, 0, 0, 0, 0), 20);
            Check.due("end as call " + (call + 1), other.end(0), 0);
        }
    }

    /** As many releases as 512 calls can bring: none of their numbers comes twice. */
    private static void allReleases() {
        Probe probe = new Probe();
        String text = "a 1.0.0" + " ".repeat(13);
        for (int number = 0; number < 170; number++) {
            Check.due("feed", probe.feedText(text, 0), 20);
            Check.due("release", probe.release(), number);
            probe.drop(number, 0);
        }
        probe.count(0, 0);
        probe.drop(169, NONE);
        Check.due("calls", probe.calls(), Probe.MOST_CALLS);
    }

    private static void allInstalls() {
        Probe probe = Probe.withReleases("a 1.0.0", "b 1.0.0").wanting("a *");
        int made = 0;
        while (probe.calls() < Probe.MOST_CALLS - 2) {
            made++;
            probe.install(made % 2, -made, 1);
        }
        probe.count(3, 4);
        probe.count(4, made);
        Check.due("calls", probe.calls(), Probe.MOST_CALLS);
    }

    private static void allRollbacks() {
        Probe probe = Probe.withReleases("a 1.0.0").wanting("a *");
        probe.install(0, -1, 1);
        while (probe.calls() < Probe.MOST_CALLS - 2) {
            probe.install(1, -1, 1);
            probe.rollback(-1, 1);
        }
        spendAllBut(probe, 1);
        probe.rollback(-1, 0);
        Check.due("calls", probe.calls(), Probe.MOST_CALLS);
    }

    private static void allWants() {
        Probe probe = new Probe();
        for (int call = 1; call <= Probe.MOST_CALLS; call += 4) {
            Check.due("feed", probe.feedText("a *" + " ".repeat(17), 0), 20);
            Check.due("want", probe.want(), 1);
            Check.due("feed", probe.feedText("a" + " ".repeat(19), 0), 20);
            Check.due("unwant", probe.unwant(), 0);
        }
    }

    /** The longest texts in as many calls as there are. */
    private static void allMatches() {
        String test = " >=1.0.0-zzzzzzzz.a";
        String range = test.repeat(4) + " ||" + test.repeat(4) + " ||" + test.repeat(4) + " ||" + test.repeat(4);
        String text = "1.0.0-zzzzzzzz.a" + range;
        String padded = text + " ".repeat(400 - text.length());
        Probe probe = new Probe();
        while (probe.calls() < Probe.MOST_CALLS - 22) {
            probe.match(padded, 1);
        }
        spendAllBut(probe, 1);
        probe.count(5, 0);
    }

    /** A full index, in which only trying tells that no set is valid, searched anew at each change to the last call. */
    private static void allOfAFullIndex() {
        Probe probe = new Probe();
        for (int number = 0; number < 32; number++) {
            int n = number % 8;
            int v = number / 8;
            String needs = " needs " + NAMES[(n + 1) % 8] + " 1.0." + (v + (n == 7 ? 1 : 0)) % 4;
            probe.release(NAMES[n] + " 1.0." + v + needs, number);
        }
        for (int round = 0; probe.calls() < Probe.MOST_CALLS - 16; round++) {
            probe.want(NAMES[round % 8] + " *", 1);
            probe.best(-1, NONE);
            probe.unwant(NAMES[round % 8], 0);
            probe.best(-1, 0);
        }
        spendAllBut(probe, 4);
        probe.want("h *", 1);
        probe.best(-1, NONE);
        Check.due("calls", probe.calls(), Probe.MOST_CALLS);
    }
}
