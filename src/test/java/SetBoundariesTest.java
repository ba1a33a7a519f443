/** The boundaries of VALID, REACHED and BETTER, and of promise 10 (best). */
public final class SetBoundariesTest {
    private static final int LEAST = Integer.MIN_VALUE;
    private static final int MOST = Integer.MAX_VALUE;
    private static final int NONE = PackageKeeper.NONE;
    private static final String[] NAMES = {"a", "b", "c", "d", "e", "f", "g", "h"};

    private SetBoundariesTest() {
    }

    public static void main(String[] args) {
        withoutRoots();
        kFromMinusOneToTheLast();
        kOfEightNames();
        noValidSet();
        oneForEachRoot();
        sixRoots();
        oneForEachNeeds();
        needsOfTheRangeEdge();
        needsOfItself();
        needsOfAllOthers();
        noneForBreaks();
        breaksOfTheRangeEdge();
        breaksOfItself();
        atMostOneOfEachName();
        reachedByWayOfSeven();
        notReached();
        betterWithout();
        betterByTheFirstName();
        betterByBytesOfNames();
        betterByTheHigherVersion();
        betterThoughTheNextIsWorse();
        lastOfFiveVersions();
        bestFollowsEachChange();
        bestChangesNothing();
        Check.finish();
    }

    /** Without roots the set without releases is the only valid one, whatever the index has. */
    private static void withoutRoots() {
        new Probe().bestIs();
        Probe probe = Probe.withReleases("a 1.0.0 needs b *", "b 1.0.0 needs a *", "c 1.0.0 needs c *", "d 1.0.0");
        probe.bestIs();
        probe.want("d *", 1);
        probe.bestIs(3);
        probe.unwant("d", 0);
        probe.bestIs();
        Probe none = new Probe().wanting("a *");
        none.hasNoValidSet();
    }

    /** "k from 0 by names, the release; for k -1 how many ... NONE for any other k". */
    private static void kFromMinusOneToTheLast() {
        Probe probe = Probe.withReleases("c 1.0.0", "b 1.0.0", "a 1.0.0").wanting("a *", "b *", "c *");
        int[] others = {LEAST, LEAST + 1, -3, -2, 3, 4, 31, 32, 33, MOST - 1, MOST};
        for (int k : others) {
            probe.best(k, NONE);
        }
        probe.best(-1, 3);
        probe.best(0, 2);
        probe.best(1, 1);
        probe.best(2, 0);
        int[] ofNothing = {LEAST, -2, 0, 1, MOST};
        for (int k : ofNothing) {
            new Probe().best(k, NONE);
        }
        new Probe().best(-1, 0);
    }

    private static void kOfEightNames() {
        Probe probe = new Probe();
        for (int n = 0; n < 8; n++) {
            probe.release(NAMES[7 - n] + " 1.0.0" + (n == 0 ? "" : " needs " + NAMES[8 - n] + " *"), n);
        }
        probe.want("b *", 1);
        probe.bestIs(6, 5, 4, 3, 2, 1, 0);
        probe.want("a *", 2);
        probe.bestIs(7, 6, 5, 4, 3, 2, 1, 0);
        probe.best(7, 0);
        probe.best(8, NONE);
        probe.best(9, NONE);
    }

    /** "NONE if there is no valid set": for every k. */
    private static void noValidSet() {
        Probe probe = Probe.withReleases("a 1.0.0").wanting("a *", "b *");
        int[] any = {LEAST, -2, -1, 0, 1, MOST};
        for (int k : any) {
            probe.best(k, NONE);
        }
        probe.unwant("b", 1);
        probe.best(-1, 1);
    }

    /** "for each root one of its name, in its range". */
    private static void oneForEachRoot() {
        Probe probe = Probe.withReleases("a 1.2.3");
        probe.want("a 1.2.3", 1);
        probe.bestIs(0);
        String[] without = {"1.2.2", "1.2.4", ">1.2.3", "<1.2.3", "<=1.2.3-z", ">=1.2.4-0", "^1.2.4-0", "~1.1.9",
            "^2.0.0"};
        for (String range : without) {
            probe.want("a " + range, 1);
            probe.hasNoValidSet();
        }
        String[] with = {"=1.2.3", ">=1.2.3", "<=1.2.3", ">1.2.3-z", "<1.2.4-0", "^1.2.3", "~1.2.3", "9.0.0 || 1.2.3"};
        for (String range : with) {
            probe.want("a " + range, 1);
            probe.bestIs(0);
        }
        probe.want("aa 1.2.3", 2);
        probe.hasNoValidSet();
    }

    private static void sixRoots() {
        Probe probe = new Probe();
        for (int n = 0; n < 6; n++) {
            probe.release(NAMES[n] + " 1.0.0", n);
            probe.want(NAMES[n] + " *", n + 1);
        }
        probe.bestIs(0, 1, 2, 3, 4, 5);
        for (int n = 0; n < 6; n++) {
            probe.want(NAMES[n] + " >1.0.0", 6);
            probe.hasNoValidSet();
            probe.want(NAMES[n] + " *", 6);
        }
        probe.bestIs(0, 1, 2, 3, 4, 5);
    }

    /** "for each needs of one in it one of that name, in its range": from the first to the sixth. */
    private static void oneForEachNeeds() {
        for (int missing = 1; missing <= 7; missing++) {
            Probe probe = new Probe();
            probe.release("a 1.0.0 needs b * needs c * needs d * needs e * needs f * needs g *", 0);
            int number = 1;
            for (int n = 1; n < 7; n++) {
                if (n != missing) {
                    probe.release(NAMES[n] + " 1.0.0", number);
                    number++;
                }
            }
            probe.want("a *", 1);
            probe.best(-1, missing == 7 ? 7 : NONE);
        }
        // Needs of releases that are not in the set count for nothing.
        Probe probe = Probe.withReleases("a 2.0.0 needs x *", "a 1.0.0", "b 1.0.0 needs x *").wanting("a *");
        probe.bestIs(1);
        probe.drop(1, 2);
        probe.hasNoValidSet();
    }

    private static void needsOfTheRangeEdge() {
        String[] ranges = {"<1.2.3", "<=1.2.3", "1.2.3", ">=1.2.3", ">1.2.3"};
        boolean[] below = {true, true, false, false, false};
        boolean[] same = {false, true, true, true, false};
        boolean[] above = {false, false, false, true, true};
        for (int i = 0; i < ranges.length; i++) {
            String needing = "a 1.0.0 needs b " + ranges[i];
            Probe.withReleases(needing, "b 1.2.3-z").wanting("a *").best(-1, below[i] ? 2 : NONE);
            Probe.withReleases(needing, "b 1.2.3").wanting("a *").best(-1, same[i] ? 2 : NONE);
            Probe.withReleases(needing, "b 1.2.4-0").wanting("a *").best(-1, above[i] ? 2 : NONE);
            Probe.withReleases(needing, "bb 1.2.3", "bb 1.2.4", "bb 1.2.2").wanting("a *").hasNoValidSet();
        }
    }

    private static void needsOfItself() {
        Probe.withReleases("a 1.0.0 needs a 1.0.0").wanting("a *").bestIs(0);
        Probe.withReleases("a 1.0.0 needs a *").wanting("a *").bestIs(0);
        Probe.withReleases("a 1.0.0 needs a >1.0.0").wanting("a *").hasNoValidSet();
        Probe.withReleases("a 1.0.0 needs a <1.0.0").wanting("a *").hasNoValidSet();
        // The one that it needs is there, but a set has only one of a name.
        Probe.withReleases("a 1.0.0 needs a 2.0.0", "a 2.0.0 needs a 1.0.0").wanting("a *").hasNoValidSet();
        Probe.withReleases("a 1.0.0", "a 2.0.0 needs a 1.0.0").wanting("a *").bestIs(0);
    }

    private static void needsOfAllOthers() {
        Probe probe = new Probe();
        for (int n = 0; n < 8; n++) {
            probe.release(NAMES[n] + " 1.0.0 needs " + NAMES[(n + 1) % 8] + " * needs " + NAMES[(n + 7) % 8] + " *", n);
        }
        for (int n = 0; n < 8; n++) {
            probe.want(NAMES[n] + " *", 1);
            probe.bestIs(0, 1, 2, 3, 4, 5, 6, 7);
            probe.unwant(NAMES[n], 0);
        }
        probe.want("a *", 1);
        probe.drop(4, 7);
        probe.hasNoValidSet();
    }

    /** "for no breaks of one in it one of that name in its range": from the first to the third. */
    private static void noneForBreaks() {
        for (int n = 1; n <= 4; n++) {
            Probe probe = Probe.withReleases("a 1.0.0 breaks b * breaks c * breaks d *", "b 1.0.0", "c 1.0.0",
                    "d 1.0.0", "e 1.0.0").wanting("a *", NAMES[n] + " *");
            probe.best(-1, n == 4 ? 2 : NONE);
        }
        // A name that is in no set, or not in the index, breaks nothing.
        Probe.withReleases("a 1.0.0 breaks b * breaks x *", "b 1.0.0").wanting("a *").bestIs(0);
        // The one that breaks may come before or behind the one that is broken.
        Probe.withReleases("a 1.0.0", "b 1.0.0 breaks a *").wanting("a *", "b *").hasNoValidSet();
        Probe.withReleases("a 1.0.0 breaks b *", "b 1.0.0").wanting("a *", "b *").hasNoValidSet();
        Probe.withReleases("a 1.0.0 needs b * breaks b *", "b 1.0.0").wanting("a *").hasNoValidSet();
        // Breaks of releases that are not in the set count for nothing.
        Probe.withReleases("a 2.0.0 breaks b *", "a 1.0.0", "b 1.0.0", "c 1.0.0 breaks a *").wanting("a *", "b *")
                .bestIs(1, 2);
    }

    private static void breaksOfTheRangeEdge() {
        String[] ranges = {"<1.2.3", "<=1.2.3", "1.2.3", ">=1.2.3", ">1.2.3"};
        boolean[] below = {true, true, false, false, false};
        boolean[] same = {false, true, true, true, false};
        boolean[] above = {false, false, false, true, true};
        for (int i = 0; i < ranges.length; i++) {
            String breaking = "a 1.0.0 breaks b " + ranges[i];
            Probe.withReleases(breaking, "b 1.2.3-z").wanting("a *", "b *").best(-1, below[i] ? NONE : 2);
            Probe.withReleases(breaking, "b 1.2.3").wanting("a *", "b *").best(-1, same[i] ? NONE : 2);
            Probe.withReleases(breaking, "b 1.2.4-0").wanting("a *", "b *").best(-1, above[i] ? NONE : 2);
            Probe.withReleases(breaking, "bb 1.2.3").wanting("a *", "bb *").best(-1, 2);
        }
    }

    private static void breaksOfItself() {
        Probe.withReleases("a 1.0.0 breaks a 1.0.0").wanting("a *").hasNoValidSet();
        Probe.withReleases("a 1.0.0 breaks a *").wanting("a *").hasNoValidSet();
        Probe.withReleases("a 1.0.0 breaks a <1.0.0 breaks a >1.0.0").wanting("a *").bestIs(0);
        Probe.withReleases("a 1.0.0 breaks a 2.0.0", "a 2.0.0 breaks a 1.0.0").wanting("a *").bestIs(1);
    }

    /** "VALID if it has at most one of each name". */
    private static void atMostOneOfEachName() {
        Probe probe = Probe.withReleases("a 1.0.0 needs c 1.0.0", "b 1.0.0 needs c 2.0.0", "c 1.0.0", "c 2.0.0")
                .wanting("a *", "b *");
        probe.hasNoValidSet();
        probe.release("b 0.1.0 needs c *", 4);
        probe.bestIs(0, 4, 2);
        probe.release("a 0.1.0 needs c 2.0.0", 5);
        probe.bestIs(0, 4, 2);
        probe.want("b 1.0.0", 2);
        probe.bestIs(5, 1, 3);
    }

    /** "REACHED: its name is a root, or one that is reached needs its name": over all eight names. */
    private static void reachedByWayOfSeven() {
        Probe probe = new Probe();
        for (int n = 0; n < 8; n++) {
            probe.release(NAMES[n] + " 1.0.0" + (n == 7 ? "" : " needs " + NAMES[n + 1] + " *"), n);
        }
        for (int n = 0; n < 8; n++) {
            probe.want(NAMES[n] + " *", 1);
            probe.best(-1, 8 - n);
            probe.best(0, n);
            probe.best(7 - n, 7);
            probe.best(8 - n, NONE);
            probe.unwant(NAMES[n], 0);
        }
        // The chain in the opposite order of the names.
        Probe other = new Probe();
        for (int n = 0; n < 8; n++) {
            other.release(NAMES[n] + " 1.0.0" + (n == 0 ? "" : " needs " + NAMES[n - 1] + " *"), n);
        }
        for (int n = 0; n < 8; n++) {
            other.want(NAMES[n] + " *", 1);
            other.best(-1, n + 1);
            other.unwant(NAMES[n], 0);
        }
    }

    private static void notReached() {
        Probe probe = Probe.withReleases("a 1.0.0 needs b *", "b 1.0.0 needs a *", "c 1.0.0 needs c *",
                "d 1.0.0 breaks e *", "e 1.0.0 needs d *").wanting("c *");
        probe.bestIs(2);
        probe.want("b *", 2);
        probe.bestIs(0, 1, 2);
        probe.want("d *", 3);
        probe.bestIs(0, 1, 2, 3);
        probe.want("e *", 4);
        probe.hasNoValidSet();
        // A breaks reaches nothing.
        Probe.withReleases("a 1.0.0 breaks b >1.0.0", "b 1.0.0").wanting("a *").bestIs(0);
    }

    /** "the one without a release of it": also if the version behind it is a lower one then. */
    private static void betterWithout() {
        Probe probe = Probe.withReleases("b 2.0.0 needs a *", "b 1.0.0", "a 1.0.0").wanting("b *");
        probe.bestIs(1);
        probe.drop(1, 2);
        probe.bestIs(2, 0);
        Probe five = Probe.withReleases("b 5.0.0 needs a *", "b 4.0.0 needs a *", "b 3.0.0 needs a *",
                "b 2.0.0 needs a *", "b 1.0.0", "a 1.0.0").wanting("b *");
        five.bestIs(4);
        five.want("b >1.0.0", 1);
        five.bestIs(5, 0);
    }

    /** "at the first name ... at which they differ". */
    private static void betterByTheFirstName() {
        // With the higher a there is b too: a counts first.
        Probe.withReleases("a 2.0.0 needs b *", "a 1.0.0", "b 1.0.0").wanting("a *").bestIs(0, 2);
        // With the higher b there is a too: a counts first.
        Probe.withReleases("b 2.0.0 needs a *", "b 1.0.0", "a 1.0.0").wanting("b *").bestIs(1);
        // The higher a counts before the higher b and c.
        Probe.withReleases("a 1.0.0 needs b 9.0.0 needs c 9.0.0", "a 1.0.1 needs b 1.0.0 needs c 1.0.0", "b 9.0.0",
                "b 1.0.0", "c 9.0.0", "c 1.0.0").wanting("a *").bestIs(1, 3, 5);
        // Alike up to the last of eight names.
        Probe probe = new Probe();
        for (int n = 0; n < 8; n++) {
            probe.release(NAMES[n] + " 1.0.0" + (n == 7 ? "" : " needs " + NAMES[n + 1] + " *"), n);
        }
        probe.want("a *", 1);
        probe.release("h 1.0.1", 8);
        probe.bestIs(0, 1, 2, 3, 4, 5, 6, 8);
        probe.release("h 1.0.1-z", 9);
        probe.bestIs(0, 1, 2, 3, 4, 5, 6, 8);
        probe.release("h 1.0.2-0", 10);
        probe.bestIs(0, 1, 2, 3, 4, 5, 6, 10);
    }

    /** "by bytes": of two names one begins with the other one, or they differ in the eighth letter alone. */
    private static void betterByBytesOfNames() {
        String[] lower = {"b", "b", "ba", "bbbbbbba", "bbbbbbb", "bz", "needr", "needs".substring(0, 4)};
        String[] higher = {"ba", "bb", "bb", "bbbbbbbb", "bbbbbbba", "c", "needt", "needss"};
        for (int i = 0; i < lower.length; i++) {
            // The set without the lower name is better, whichever release of r it has.
            Probe.withReleases("r 2.0.0 needs " + lower[i] + " *", "r 1.0.0 needs " + higher[i] + " *",
                    lower[i] + " 1.0.0", higher[i] + " 1.0.0").wanting("r *").bestIs(3, 1);
            Probe.withReleases("r 1.0.0 needs " + lower[i] + " *", "r 2.0.0 needs " + higher[i] + " *",
                    lower[i] + " 1.0.0", higher[i] + " 1.0.0").wanting("r *").bestIs(3, 1);
            Probe.withReleases(higher[i] + " 1.0.0", lower[i] + " 1.0.0").wanting(higher[i] + " *", lower[i] + " *")
                    .bestIs(1, 0);
        }
    }

    /** "else the one with the higher version". */
    private static void betterByTheHigherVersion() {
        String[] rising = {"0.0.0-0", "0.0.0", "0.9.0", "0.10.0", "1.0.0-1", "1.0.0-2", "1.0.0-10", "1.0.0-A",
            "1.0.0-a", "1.0.0-a.0", "1.0.0", "999999999.0.0"};
        for (int i = 1; i < rising.length; i++) {
            Probe.withReleases("a " + rising[i - 1], "a " + rising[i]).wanting("a *").bestIs(1);
            Probe.withReleases("a " + rising[i], "a " + rising[i - 1]).wanting("a *").bestIs(0);
        }
    }

    private static void betterThoughTheNextIsWorse() {
        Probe probe = Probe.withReleases("a 3.0.0 needs b 1.0.0", "a 2.0.0 needs b 2.0.0", "b 1.0.0 breaks c >1.0.0",
                "b 2.0.0", "c 1.0.0", "c 2.0.0").wanting("a *", "b *", "c *");
        probe.bestIs(0, 2, 4);
        probe.drop(4, 5);
        probe.bestIs(1, 3, 5);
    }

    /** Only the lowest of five versions of each name fits. */
    private static void lastOfFiveVersions() {
        Probe probe = new Probe();
        int number = 0;
        for (int n = 0; n < 6; n++) {
            for (int v = 4; v >= 0; v--) {
                String needs = " needs " + NAMES[(n + 1) % 6] + " <1.0." + Math.max(v, 1);
                probe.release(NAMES[n] + " 1.0." + v + needs, number);
                number++;
            }
        }
        probe.want("f *", 1);
        probe.bestIs(4, 9, 14, 19, 24, 29);
        probe.drop(14, 29);
        probe.hasNoValidSet();
    }

    /** "of the index and roots as they are": what was found before is not told again. */
    private static void bestFollowsEachChange() {
        Probe probe = Probe.withReleases("a 1.0.0");
        probe.bestIs();
        probe.want("a *", 1);
        probe.bestIs(0);
        probe.release("a 1.0.1 needs b *", 1);
        probe.bestIs(0);
        probe.release("b 1.0.0", 2);
        probe.bestIs(1, 2);
        probe.want("b >1.0.0", 2);
        probe.hasNoValidSet();
        probe.unwant("b", 1);
        probe.bestIs(1, 2);
        probe.drop(2, 2);
        probe.bestIs(0);
        probe.install(0, -1, 1);
        probe.release("b 1.0.0", 3);
        probe.bestIs(1, 3);
        probe.rollback(-1, 0);
        probe.bestIs(1, 3);
    }

    private static void bestChangesNothing() {
        Probe probe = Probe.withReleases("a 1.0.0", "a 2.0.0").wanting("a 1.0.0");
        probe.install(0, -1, 1);
        probe.want("a *", 1);
        String before = probe.picture();
        int[] any = {LEAST, -2, -1, 0, 1, 2, MOST};
        for (int k : any) {
            probe.best(k);
        }
        probe.isAs(before, "best");
        probe.bestIs(1);
        probe.currentIs(0, 0);
    }
}
