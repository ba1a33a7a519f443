/** The boundaries of GENERATIONS, and of the promises 8 (install), 9 (rollback) and 13 (owner). */
public final class GenerationBoundariesTest {
    private static final int LEAST = Integer.MIN_VALUE;
    private static final int MOST = Integer.MAX_VALUE;
    private static final int CLASH = PackageKeeper.CLASH;
    private static final int CUT = PackageKeeper.CUT;
    private static final int NONE = PackageKeeper.NONE;
    private static final int REFUSED = PackageKeeper.REFUSED;
    private static final int[] CUTS = {0, 1, 2, 511, 512, MOST - 1, MOST};
    private static final int[] NO_CUTS = {-1, -2, -512, LEAST + 1, LEAST};

    private GenerationBoundariesTest() {
    }

    public static void main(String[] args) {
        howIsNoughtOrOne();
        refusedAheadOfAll();
        cutFromNoughtOn();
        cutOfEveryInstall();
        noneThenClashThenCut();
        clashOfOnePath();
        clashOfAnyTwo();
        clashOfTheBestSetAlone();
        noClashOfOneRelease();
        currentSetStays();
        currentSetOutOfARange();
        currentSetWithoutARoot();
        currentSetNotReached();
        currentSetDropped();
        currentSetDroppedFromAFullIndex();
        currentSetThatOtherReleasesBreak();
        emptySetStays();
        setsOfNoughtToEight();
        refusedInstallsChangeNothing();
        refusedInstallsLoseNoGeneration();
        threeEarlierOnes();
        rollbackToTheFirst();
        rollbackCut();
        refusedRollbackChangesNothing();
        installBehindRollback();
        generationsStayAsTheyWere();
        ownerOfTheCurrentOne();
        ownerChangesNothing();
        Check.finish();
    }

    /** Version v of a, as release v, is what each generation with a number v has; the first has nothing. */
    private static Probe withGenerations(int made) {
        Probe probe = Probe.withReleases("a 1.0.0", "a 1.0.1", "a 1.0.2", "a 1.0.3", "a 1.0.4");
        probe.want("a *", 1);
        for (int v = 0; v < made; v++) {
            probe.want("a 1.0." + v, 1);
            probe.install(0, -1, 1);
        }
        return probe;
    }

    /** "REFUSED ... if how is not 0 or 1". */
    private static void howIsNoughtOrOne() {
        int[] others = {LEAST, LEAST + 1, -2, -1, 2, 3, 256, MOST - 1, MOST};
        Probe probe = Probe.withReleases("a 1.0.0").wanting("a *");
        String before = probe.picture();
        for (int how : others) {
            probe.install(how, -1, REFUSED);
        }
        probe.isAs(before, "install with another how");
        probe.install(0, -1, 1);
        probe.install(1, -1, 1);
        probe.count(4, 2);
    }

    /** "REFUSED, ahead of all". */
    private static void refusedAheadOfAll() {
        Probe none = new Probe().wanting("a *");
        none.install(2, -1, REFUSED);
        none.install(-1, 0, REFUSED);
        none.install(1, 0, NONE);
        Probe clash = Probe.withReleases("a 1.0.0 owns p", "b 1.0.0 owns p").wanting("a *", "b *");
        clash.install(2, -1, REFUSED);
        clash.install(-1, 0, REFUSED);
        clash.install(1, 0, CLASH);
        Probe cut = Probe.withReleases("a 1.0.0").wanting("a *");
        cut.install(2, 0, REFUSED);
        cut.install(-1, MOST, REFUSED);
        cut.install(1, 0, CUT);
    }

    /** "CUT if cut is 0 or above, however great". */
    private static void cutFromNoughtOn() {
        Probe probe = Probe.withReleases("a 1.0.0", "b 1.0.0").wanting("a *");
        String before = probe.picture();
        for (int cut : CUTS) {
            probe.install(0, cut, CUT);
            probe.install(1, cut, CUT);
        }
        probe.isAs(before, "install that is cut off");
        for (int cut : NO_CUTS) {
            probe.install(0, cut, 1);
            probe.install(1, cut, 1);
        }
        probe.count(4, 2 * NO_CUTS.length);
        // Many blocks are no more than few: it is cut off whatever there is to do.
        probe.want("b *", 2);
        for (int cut = 0; cut < 100; cut++) {
            probe.install(1, cut, CUT);
        }
        probe.currentIs(0, 0);
        probe.install(1, -1, 2);
    }

    /** Also of one that would change nothing, or that has no releases. */
    private static void cutOfEveryInstall() {
        Probe probe = new Probe();
        probe.install(0, 0, CUT);
        probe.install(1, MOST, CUT);
        probe.count(3, 1);
        probe.count(4, 0);
        probe.install(0, -1, 0);
        probe.install(0, 0, CUT);
        probe.count(3, 2);
        Probe same = Probe.withReleases("a 1.0.0").wanting("a *");
        same.install(0, -1, 1);
        same.install(0, 0, CUT);
        same.install(0, MOST, CUT);
        same.install(1, 0, CUT);
        same.count(3, 2);
        same.count(4, 1);
    }

    /** "the first of them counts": each with all that come behind it. */
    private static void noneThenClashThenCut() {
        Probe probe = Probe.withReleases("a 1.0.0 owns p", "b 1.0.0 owns p", "c 1.0.0").wanting("a *", "b *", "x *");
        for (int how = 0; how <= 1; how++) {
            probe.install(how, -1, NONE);
            probe.install(how, 0, NONE);
            probe.install(how, MOST, NONE);
        }
        probe.unwant("x", 2);
        for (int how = 0; how <= 1; how++) {
            probe.install(how, -1, CLASH);
            probe.install(how, 0, CLASH);
            probe.install(how, MOST, CLASH);
        }
        probe.unwant("b", 1);
        for (int how = 0; how <= 1; how++) {
            probe.install(how, 0, CUT);
            probe.install(how, MOST, CUT);
        }
        probe.count(4, 0);
        probe.install(0, -1, 1);
    }

    /** "CLASH if two of its releases own the same path": the same in every byte. */
    private static void clashOfOnePath() {
        String[] paths = {"p", "bin/a", "abcdefghijklmnopqrst", "needs", "-", "A.z/9"};
        String[] others = {"P", "bin/A", "abcdefghijklmnopqrsu", "need", "--", "A.z/"};
        for (int i = 0; i < paths.length; i++) {
            Probe probe = Probe.withReleases("a 1.0.0 owns " + paths[i], "b 1.0.0 owns " + paths[i],
                    "b 0.1.0 owns " + others[i]).wanting("a *", "b *");
            probe.install(0, -1, CLASH);
            probe.want("b <1.0.0", 2);
            probe.install(0, -1, 2);
            probe.owner(paths[i], 0);
            probe.owner(others[i], 2);
        }
    }

    /** Whichever of the four paths of either it is, and whichever two of a set they are. */
    private static void clashOfAnyTwo() {
        String[] ofA = {" owns q", " owns r", " owns s", " owns t"};
        String[] ofB = {" owns u", " owns v", " owns w", " owns x"};
        for (int i = 0; i < 4; i++) {
            for (int j = 0; j < 4; j++) {
                StringBuilder a = new StringBuilder("a 1.0.0");
                StringBuilder b = new StringBuilder("b 1.0.0");
                for (int k = 0; k < 4; k++) {
                    a.append(k == i ? " owns p" : ofA[k]);
                    b.append(k == j ? " owns p" : ofB[k]);
                }
                Probe.withReleases(a.toString(), b.toString()).wanting("a *", "b *").install(0, -1, CLASH);
            }
        }
        String[] names = {"a", "b", "c", "d", "e", "f", "g", "h"};
        for (int i = 0; i < 8; i++) {
            for (int j = i + 1; j < 8; j++) {
                Probe probe = new Probe();
                for (int n = 0; n < 8; n++) {
                    String path = " owns " + (n == i || n == j ? "same" : names[n]);
                    probe.release(names[n] + " 1.0.0 needs " + names[(n + 1) % 8] + " *" + path, n);
                }
                probe.want("a *", 1);
                probe.install(0, -1, CLASH);
            }
        }
    }

    /** Releases that are not in the set clash with nothing, and a clash makes no other set the best one. */
    private static void clashOfTheBestSetAlone() {
        Probe probe = Probe.withReleases("a 1.0.0 owns p", "b 2.0.0 owns p", "b 1.0.0").wanting("a *");
        probe.install(0, -1, 1);
        probe.want("b *", 2);
        probe.bestIs(0, 1);
        probe.install(0, -1, CLASH);
        probe.bestIs(0, 1);
        probe.want("b <2.0.0", 2);
        probe.install(0, -1, 2);
        // What is current owns the path as well, but goes.
        Probe next = Probe.withReleases("a 1.0.0 owns p", "a 2.0.0 owns p").wanting("a 1.0.0");
        next.install(0, -1, 1);
        next.want("a 2.0.0", 1);
        next.install(0, -1, 1);
        next.owner("p", 1);
    }

    private static void noClashOfOneRelease() {
        Probe probe = Probe.withReleases("a 1.0.0 owns p owns p owns p owns p").wanting("a *");
        probe.install(0, -1, 1);
        probe.owner("p", 0);
    }

    /** "of the set of the current one, if that is valid ... and how is 0; else of the best valid set". */
    private static void currentSetStays() {
        Probe probe = Probe.withReleases("a 1.0.0").wanting("a *");
        probe.install(0, -1, 1);
        probe.release("a 2.0.0", 1);
        probe.bestIs(1);
        probe.install(0, -1, 1);
        probe.currentIs(0, 0);
        probe.stepsAre();
        probe.count(3, 3);
        probe.count(4, 2);
        probe.install(1, -1, 1);
        probe.currentIs(1, 0);
        probe.stepsAre(0, 0, 1, 1);
        probe.install(0, -1, 1);
        probe.currentIs(1, 0);
    }

    /** "valid by the roots as they are": a root's range with the installed version at its edge. */
    private static void currentSetOutOfARange() {
        String[] ranges = {"<1.0.1", "<=1.0.1", "1.0.1", ">=1.0.1", ">1.0.1", "^1.0.1", "^1.0.2", "*"};
        int[] dues = {0, 1, 1, 1, 2, 1, 2, 1};
        for (int i = 0; i < ranges.length; i++) {
            Probe probe = Probe.withReleases("a 1.0.0", "a 1.0.1").wanting("a *");
            probe.install(0, -1, 1);
            probe.release("a 1.0.2", 2);
            probe.want("a " + ranges[i], 1);
            probe.install(0, -1, 1);
            probe.currentIs(dues[i], 0);
        }
    }

    private static void currentSetWithoutARoot() {
        Probe probe = Probe.withReleases("a 1.0.0", "b 1.0.0").wanting("a *");
        probe.install(0, -1, 1);
        probe.release("a 2.0.0", 2);
        // A new root has no release in the current set: all is sought anew, a too.
        probe.want("b *", 2);
        probe.install(0, -1, 2);
        probe.currentIs(2, 0, 1, 1);
        probe.want("c *", 3);
        probe.install(0, -1, NONE);
        probe.currentIs(2, 0, 1, 1);
        // A root whose release is there for another's sake asks for nothing new.
        Probe other = Probe.withReleases("a 1.0.0 needs b *", "b 1.0.0").wanting("a *");
        other.install(0, -1, 2);
        other.release("b 2.0.0", 2);
        other.want("b <2.0.0", 2);
        other.install(0, -1, 2);
        other.want("b *", 2);
        other.install(0, -1, 2);
        other.currentIs(1, 0, 0, 1);
        other.want("b >1.0.0", 2);
        other.install(0, -1, 2);
        other.currentIs(2, 0, 0, 1);
    }

    /** "each one in it is REACHED": one that no root leads to any more makes the set no valid one. */
    private static void currentSetNotReached() {
        Probe probe = Probe.withReleases("a 1.0.0", "b 1.0.0").wanting("a *", "b *");
        probe.install(0, -1, 2);
        probe.release("b 2.0.0", 2);
        probe.unwant("a", 1);
        probe.install(0, -1, 1);
        probe.currentIs(2, 0);
        // Still reached by a needs.
        Probe kept = Probe.withReleases("a 1.0.0 needs b *", "b 1.0.0 needs c *", "c 1.0.0")
                .wanting("a *", "b *", "c *");
        kept.install(0, -1, 3);
        kept.release("c 2.0.0", 3);
        kept.unwant("b", 2);
        kept.unwant("c", 1);
        kept.install(0, -1, 3);
        kept.currentIs(2, 0, 1, 1, 0, 2);
        kept.want("c *", 2);
        kept.unwant("a", 1);
        kept.install(0, -1, 1);
        kept.currentIs(3, 0);
        // They need each other, or themselves, but nothing that is reached needs them.
        Probe circle = Probe.withReleases("a 1.0.0 needs b *", "b 1.0.0 needs a *", "c 1.0.0", "d 1.0.0 needs d *")
                .wanting("a *", "c *", "d *");
        circle.install(0, -1, 4);
        circle.unwant("d", 2);
        circle.install(0, -1, 3);
        circle.currentIs(0, 0, 1, 0, 2, 1);
        circle.unwant("a", 1);
        circle.install(0, -1, 1);
        circle.currentIs(2, 0);
        circle.unwant("c", 0);
        circle.install(0, -1, 0);
        circle.currentIs();
    }

    /** "none of its releases was dropped (though one alike may have come again)". */
    private static void currentSetDropped() {
        Probe probe = Probe.withReleases("a 1.0.0", "b 1.0.0", "c 1.0.0").wanting("a *", "b *");
        probe.install(0, -1, 2);
        // One that is not in the set may go.
        probe.drop(2, 2);
        probe.release("a 2.0.0", 3);
        probe.install(0, -1, 2);
        probe.currentIs(0, 0, 1, 1);
        // One alike is another one: the set is sought anew.
        probe.drop(1, 2);
        probe.release("b 1.0.0", 4);
        probe.install(0, -1, 2);
        probe.currentIs(3, 0, 4, 1);
        probe.stepsAre(1, 0, 0, 0, 3, 1, 4, 1);
        probe.drop(4, 2);
        probe.install(0, -1, NONE);
        probe.currentIs(3, 0, 4, 1);
        // Taken back, the set with what was dropped is current, but the next install leaves it.
        probe.rollback(-1, 2);
        probe.currentIs(0, 0, 1, 1);
        probe.release("b 1.0.0", 5);
        probe.install(0, -1, 2);
        probe.currentIs(3, 0, 5, 1);
    }

    /** The same with 32 releases, of which the one alike is among the first or the last by names. */
    private static void currentSetDroppedFromAFullIndex() {
        String[] names = {"a", "b", "c", "d", "e", "f", "g", "h"};
        for (int end = 0; end < 8; end += 7) {
            Probe probe = Probe.withReleases(names[end] + " 1.0.0").wanting(names[end] + " *");
            probe.install(0, -1, 1);
            probe.drop(0, 0);
            probe.release(names[end] + " 1.0.0", 1);
            for (int number = 2; number <= 32; number++) {
                probe.release(names[number % 8] + " 0.9." + number, number);
            }
            probe.count(0, 32);
            probe.install(0, -1, 1);
            probe.currentIs(1, 0);
            // Now a higher one is in the index, but what is current was not dropped.
            probe.drop(16 + end, 31);
            probe.release(names[end] + " 2.0.0", 33);
            probe.install(0, -1, 1);
            probe.currentIs(1, 0);
            probe.drop(1, 31);
            probe.release(names[end] + " 1.0.0", 34);
            probe.install(0, -1, 1);
            probe.currentIs(33, 0);
        }
    }

    /** Only what is in the set, and the roots, tell whether it is valid. */
    private static void currentSetThatOtherReleasesBreak() {
        Probe probe = Probe.withReleases("a 1.0.0", "b 1.0.0").wanting("a *", "b *");
        probe.install(0, -1, 2);
        probe.release("c 1.0.0 breaks a * breaks b *", 2);
        probe.release("a 2.0.0 breaks b *", 3);
        probe.install(0, -1, 2);
        probe.currentIs(0, 0, 1, 1);
        probe.want("c *", 3);
        probe.install(0, -1, NONE);
        probe.currentIs(0, 0, 1, 1);
    }

    /** The first generation, without releases, is valid as long as there are no roots. */
    private static void emptySetStays() {
        Probe probe = Probe.withReleases("a 1.0.0");
        probe.install(0, -1, 0);
        probe.count(3, 2);
        probe.count(4, 1);
        probe.currentIs();
        probe.stepsAre();
        probe.install(1, -1, 0);
        probe.count(3, 3);
        probe.count(4, 2);
        probe.want("a *", 1);
        probe.install(0, -1, 1);
        probe.currentIs(0, 0);
    }

    /** "how many releases it has". */
    private static void setsOfNoughtToEight() {
        String[] names = {"a", "b", "c", "d", "e", "f", "g", "h"};
        for (int size = 0; size <= 8; size++) {
            Probe probe = new Probe();
            for (int n = 0; n < size; n++) {
                String needs = n + 1 < size ? " needs " + names[n + 1] + " *" : "";
                probe.release(names[n] + " 1.0.0" + needs, n);
            }
            if (size > 0) {
                probe.want("a *", 1);
            }
            probe.install(0, -1, size);
            probe.count(2, size);
            probe.install(1, -1, size);
            probe.rollback(-1, size);
            probe.count(2, size);
            probe.rollback(-1, 0);
            probe.count(2, 0);
        }
    }

    /** "In these cases ... all is as before." */
    private static void refusedInstallsChangeNothing() {
        Probe probe = Probe.withReleases("a 1.0.0 owns p", "b 1.0.0 owns p", "a 2.0.0 owns q").wanting("a 1.0.0");
        probe.install(0, -1, 1);
        probe.want("a *", 1);
        String before = probe.picture();
        probe.install(1, 0, CUT);
        probe.install(0, MOST, CUT);
        probe.install(2, -1, REFUSED);
        probe.install(-1, 0, REFUSED);
        probe.isAs(before, "cut and refused installs");
        probe.owner("p", 0);
        probe.owner("q", NONE);
        probe.want("a 1.0.0", 1);
        probe.want("b *", 2);
        before = probe.picture();
        probe.install(0, -1, CLASH);
        probe.install(1, 0, CLASH);
        probe.isAs(before, "installs that clash");
        probe.owner("p", 0);
        probe.want("c *", 3);
        before = probe.picture();
        probe.install(0, -1, NONE);
        probe.install(1, 0, NONE);
        probe.isAs(before, "installs of no valid set");
        probe.owner("p", 0);
        probe.release("b 2.0.0", 3);
        probe.unwant("c", 2);
        probe.install(0, -1, 2);
        probe.currentIs(0, 0, 3, 1);
    }

    /** With as many generations as are kept none goes for an install that is not done. */
    private static void refusedInstallsLoseNoGeneration() {
        Probe probe = withGenerations(3);
        probe.count(3, 4);
        probe.want("a 1.0.3", 1);
        probe.install(0, 0, CUT);
        probe.install(1, MOST, CUT);
        probe.install(2, -1, REFUSED);
        probe.want("a 9.0.0", 1);
        probe.install(0, -1, NONE);
        probe.want("a 1.0.3", 1);
        probe.release("b 1.0.0 owns p", 5);
        probe.release("c 1.0.0 owns p", 6);
        probe.want("b *", 2);
        probe.want("c *", 3);
        probe.install(0, -1, CLASH);
        probe.count(3, 4);
        probe.count(4, 3);
        probe.currentIs(2, 0);
        probe.rollback(-1, 1);
        probe.currentIs(1, 0);
        probe.rollback(-1, 1);
        probe.currentIs(0, 0);
        probe.rollback(-1, 0);
        probe.currentIs();
        probe.rollback(-1, NONE);
    }

    /** "the CURRENT one (at first one without any) and up to 3 earlier ones are kept". */
    private static void threeEarlierOnes() {
        for (int made = 0; made <= 5; made++) {
            Probe probe = withGenerations(made);
            int kept = Math.min(made + 1, 4);
            probe.count(3, kept);
            probe.count(4, made);
            for (int back = 1; back < kept; back++) {
                int at = made - 1 - back;
                probe.rollback(-1, at < 0 ? 0 : 1);
                probe.current(0, 0, at < 0 ? NONE : at);
                probe.count(3, kept - back);
                probe.count(4, made);
            }
            probe.rollback(-1, NONE);
            probe.count(3, 1);
        }
    }

    /** "NONE if none is kept", ahead of CUT. */
    private static void rollbackToTheFirst() {
        Probe probe = new Probe();
        for (int cut : CUTS) {
            probe.rollback(cut, NONE);
        }
        for (int cut : NO_CUTS) {
            probe.rollback(cut, NONE);
        }
        probe.count(3, 1);
        probe.install(0, -1, 0);
        probe.rollback(-1, 0);
        probe.rollback(-1, NONE);
        probe.rollback(0, NONE);
        probe.count(3, 1);
        probe.count(4, 1);
    }

    /** "else CUT as for install". */
    private static void rollbackCut() {
        for (int cut : CUTS) {
            Probe probe = withGenerations(2);
            String before = probe.picture();
            probe.rollback(cut, CUT);
            probe.isAs(before, "rollback that is cut off");
            probe.rollback(-1, 1);
            probe.currentIs(0, 0);
        }
        for (int cut : NO_CUTS) {
            Probe probe = withGenerations(2);
            probe.rollback(cut, 1);
            probe.currentIs(0, 0);
            probe.rollback(cut, 0);
            probe.rollback(cut, NONE);
        }
    }

    private static void refusedRollbackChangesNothing() {
        Probe probe = withGenerations(1);
        probe.rollback(-1, 0);
        String before = probe.picture();
        probe.rollback(-1, NONE);
        probe.rollback(0, NONE);
        probe.rollback(MOST, NONE);
        probe.isAs(before, "rollback to none");
        probe.stepsAre(0, 0);
        Probe four = withGenerations(5);
        before = four.picture();
        for (int cut : CUTS) {
            four.rollback(cut, CUT);
        }
        four.isAs(before, "rollback that is cut off");
        for (int back = 1; back <= 3; back++) {
            four.rollback(-1, 1);
            four.currentIs(4 - back, 0);
        }
        four.rollback(-1, NONE);
    }

    /** "The generation before the current one becomes current; that is gone". */
    private static void installBehindRollback() {
        Probe probe = withGenerations(3);
        probe.rollback(-1, 1);
        probe.currentIs(1, 0);
        // Roots and index are as they were: only the generation went back.
        probe.bestIs(2);
        probe.count(1, 1);
        probe.count(0, 5);
        probe.want("a 1.0.4", 1);
        probe.install(0, -1, 1);
        probe.currentIs(4, 0);
        probe.count(3, 4);
        probe.count(4, 4);
        int[] earlier = {1, 0};
        for (int release : earlier) {
            probe.rollback(-1, 1);
            probe.currentIs(release, 0);
        }
        probe.rollback(-1, 0);
        probe.rollback(-1, NONE);
        probe.count(4, 4);
    }

    /** "each is a set of releases, as they were when it was made, with their paths". */
    private static void generationsStayAsTheyWere() {
        Probe probe = Probe.withReleases("a 1.0.0 needs b * owns p", "b 1.0.0 owns q").wanting("a *");
        probe.install(0, -1, 2);
        probe.drop(0, 1);
        probe.drop(1, 0);
        probe.release("a 1.0.0 owns r", 2);
        probe.release("b 1.0.0 needs a * owns s", 3);
        probe.owner("p", 0);
        probe.owner("r", NONE);
        probe.currentIs(1, 0, 0, 1);
        probe.install(0, -1, 1);
        probe.currentIs(2, 0);
        probe.owner("p", NONE);
        probe.owner("q", NONE);
        probe.owner("r", 2);
        probe.owner("s", NONE);
        probe.rollback(-1, 2);
        probe.currentIs(1, 0, 0, 1);
        probe.owner("p", 0);
        probe.owner("q", 1);
        probe.owner("r", NONE);
    }

    /** "The release of the current generation that owns the TAPE ... NONE if there is none". */
    private static void ownerOfTheCurrentOne() {
        Probe probe = Probe.withReleases("b 1.0.0 owns p1 owns p2 owns p3 owns p4", "a 1.0.0 needs b * owns p5",
                "c 1.0.0");
        probe.owner("p1", NONE);
        probe.want("a *", 1);
        probe.owner("p1", NONE);
        probe.install(0, 0, CUT);
        probe.owner("p1", NONE);
        probe.install(0, -1, 2);
        String[] paths = {"p0", "p1", "p2", "p3", "p4", "p5", "p6", "p", "p11", "P1", "1p"};
        int[] dues = {NONE, 0, 0, 0, 0, 1, NONE, NONE, NONE, NONE, NONE};
        for (int i = 0; i < paths.length; i++) {
            probe.owner(paths[i], dues[i]);
        }
        probe.rollback(-1, 0);
        probe.owner("p1", NONE);
        probe.owner("p5", NONE);
    }

    private static void ownerChangesNothing() {
        Probe probe = Probe.withReleases("a 1.0.0 owns p").wanting("a *");
        probe.install(0, -1, 1);
        String before = probe.picture();
        probe.owner("p", 0);
        probe.owner("q", NONE);
        probe.owner("p p", PackageKeeper.FAULT);
        probe.owner("", PackageKeeper.FAULT);
        probe.isAs(before, "owner");
    }
}
