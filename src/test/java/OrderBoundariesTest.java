/** The boundaries of ORDER, CIRCLES and STEPS, and of the promises 11 (current) and 12 (step). */
public final class OrderBoundariesTest {
    private static final int LEAST = Integer.MIN_VALUE;
    private static final int MOST = Integer.MAX_VALUE;
    private static final int CLASH = PackageKeeper.CLASH;
    private static final int CUT = PackageKeeper.CUT;
    private static final int NONE = PackageKeeper.NONE;
    private static final int REFUSED = PackageKeeper.REFUSED;
    private static final String[] NAMES = {"a", "b", "c", "d", "e", "f", "g", "h"};
    private static final int[] OTHER_WHATS = {LEAST, LEAST + 1, -2, -1, 2, 3, 256, MOST - 1, MOST};

    private OrderBoundariesTest() {
    }

    public static void main(String[] args) {
        currentAtItsEnds();
        currentRefusedFirst();
        stepsAtTheirEnds();
        stepRefusedFirst();
        noStepsBeforeTheFirst();
        currentAndStepChangeNothing();
        circleOfOne();
        circleOfTwo();
        circleOfEight();
        circleByWayOfOthers();
        twoCirclesThatShareOne();
        circlesSideBySide();
        leastNameOfThoseReady();
        circleWaitsForWhatAnyOfItNeeds();
        needsBeforeWhatNeedsThem();
        breaksAreNoNeeds();
        needsByNameWhateverTheRange();
        noSteps();
        sixteenSteps();
        goingInOppositeOrder();
        sameByNumbers();
        someStay();
        stepsOfTheLatestThatWasDone();
        stepsOfARollback();
        Check.finish();
    }

    private static Probe installed(int size, Probe probe) {
        probe.install(1, -1, size);
        return probe;
    }

    /** Eight of the names, each of which needs the next one. */
    private static Probe withChainOfEight() {
        Probe probe = new Probe();
        for (int n = 0; n < 8; n++) {
            probe.release(NAMES[n] + " 1.0.0" + (n == 7 ? "" : " needs " + NAMES[n + 1] + " *"), n);
        }
        return probe.wanting("a *");
    }

    /** "k from 0 in its order ... NONE if there is none". */
    private static void currentAtItsEnds() {
        int[] none = {LEAST, LEAST + 1, -2, -1, 8, 9, MOST - 1, MOST};
        Probe probe = installed(8, withChainOfEight());
        for (int k : none) {
            probe.current(k, 0, NONE);
            probe.current(k, 1, NONE);
        }
        for (int k = 0; k < 8; k++) {
            probe.current(k, 0, 7 - k);
            probe.current(k, 1, k);
        }
        Probe one = installed(1, Probe.withReleases("a 1.0.0").wanting("a *"));
        one.current(-1, 0, NONE);
        one.current(0, 0, 0);
        one.current(0, 1, 0);
        one.current(1, 0, NONE);
        one.current(1, 1, NONE);
        Probe empty = new Probe();
        empty.current(-1, 0, NONE);
        empty.current(0, 0, NONE);
        empty.current(0, 1, NONE);
        empty.current(1, 1, NONE);
    }

    /** "REFUSED for another what, first". */
    private static void currentRefusedFirst() {
        Probe probe = installed(1, Probe.withReleases("a 1.0.0").wanting("a *"));
        Probe empty = new Probe();
        int[] ks = {LEAST, -1, 0, 1, MOST};
        for (int what : OTHER_WHATS) {
            for (int k : ks) {
                probe.current(k, what, REFUSED);
                empty.current(k, what, REFUSED);
            }
        }
    }

    private static void stepsAtTheirEnds() {
        int[] none = {LEAST, LEAST + 1, -2, -1, 8, 9, 15, 16, MOST - 1, MOST};
        Probe probe = installed(8, withChainOfEight());
        for (int k : none) {
            probe.step(k, 0, NONE);
            probe.step(k, 1, NONE);
        }
        for (int k = 0; k < 8; k++) {
            probe.step(k, 0, 7 - k);
            probe.step(k, 1, 1);
        }
        Probe one = installed(1, Probe.withReleases("a 1.0.0").wanting("a *"));
        one.step(-1, 0, NONE);
        one.step(0, 0, 0);
        one.step(0, 1, 1);
        one.step(1, 0, NONE);
        one.step(1, 1, NONE);
    }

    private static void stepRefusedFirst() {
        Probe probe = installed(1, Probe.withReleases("a 1.0.0").wanting("a *"));
        Probe empty = new Probe();
        int[] ks = {LEAST, -1, 0, 1, MOST};
        for (int what : OTHER_WHATS) {
            for (int k : ks) {
                probe.step(k, what, REFUSED);
                empty.step(k, what, REFUSED);
            }
        }
    }

    /** "NONE if there is none, also before the first one was done". */
    private static void noStepsBeforeTheFirst() {
        Probe probe = Probe.withReleases("a 1.0.0 owns p", "b 1.0.0 owns p");
        int[] ks = {LEAST, -1, 0, 1, MOST};
        for (int k : ks) {
            probe.step(k, 0, NONE);
            probe.step(k, 1, NONE);
        }
        probe.rollback(-1, NONE);
        probe.want("a *", 1);
        probe.install(0, 0, CUT);
        probe.stepsAre();
        probe.want("b *", 2);
        probe.install(0, -1, CLASH);
        probe.stepsAre();
        probe.want("x *", 3);
        probe.install(0, -1, NONE);
        probe.stepsAre();
        probe.install(2, -1, REFUSED);
        probe.stepsAre();
    }

    private static void currentAndStepChangeNothing() {
        Probe probe = installed(2, Probe.withReleases("a 1.0.0 needs b *", "b 1.0.0").wanting("a *"));
        String before = probe.picture();
        int[] values = {LEAST, -1, 0, 1, 2, MOST};
        for (int k : values) {
            for (int what : values) {
                probe.current(k, what);
                probe.step(k, what);
            }
        }
        probe.isAs(before, "current and step");
    }

    /** One that needs itself is a circle as one that needs nothing is. */
    private static void circleOfOne() {
        installed(2, Probe.withReleases("a 1.0.0 needs a *", "b 1.0.0").wanting("a *", "b *")).currentIs(0, 0, 1, 1);
        installed(2, Probe.withReleases("a 1.0.0", "b 1.0.0 needs b *").wanting("a *", "b *")).currentIs(0, 0, 1, 1);
        installed(2, Probe.withReleases("a 1.0.0 needs a * needs b *", "b 1.0.0 needs b *").wanting("a *"))
                .currentIs(1, 0, 0, 1);
    }

    /** "CIRCLES: releases that need each other". */
    private static void circleOfTwo() {
        installed(2, Probe.withReleases("a 1.0.0 needs b *", "b 1.0.0").wanting("a *")).currentIs(1, 0, 0, 1);
        installed(2, Probe.withReleases("a 1.0.0 needs b *", "b 1.0.0 needs a *").wanting("a *")).currentIs(0, 0, 1, 0);
        installed(2, Probe.withReleases("b 1.0.0 needs a *", "a 1.0.0 needs b *").wanting("b *")).currentIs(1, 0, 0, 0);
    }

    private static void circleOfEight() {
        Probe probe = new Probe();
        for (int n = 0; n < 8; n++) {
            probe.release(NAMES[7 - n] + " 1.0.0 needs " + NAMES[(15 - n - 3) % 8] + " *", n);
        }
        probe.want("d *", 1);
        installed(8, probe).currentIs(7, 0, 6, 0, 5, 0, 4, 0, 3, 0, 2, 0, 1, 0, 0, 0);
    }

    /** "by way of others too". */
    private static void circleByWayOfOthers() {
        installed(3, Probe.withReleases("a 1.0.0 needs b *", "b 1.0.0 needs c *", "c 1.0.0 needs a *").wanting("b *"))
                .currentIs(0, 0, 1, 0, 2, 0);
        installed(3, Probe.withReleases("a 1.0.0 needs c *", "b 1.0.0 needs a *", "c 1.0.0 needs b *").wanting("b *"))
                .currentIs(0, 0, 1, 0, 2, 0);
        // A chain of as many that does not come back.
        installed(3, Probe.withReleases("a 1.0.0 needs c *", "b 1.0.0 needs a *", "c 1.0.0").wanting("b *"))
                .currentIs(2, 0, 0, 1, 1, 2);
        // The way back goes over all eight.
        for (int skip = 1; skip < 8; skip += 2) {
            Probe probe = new Probe();
            for (int n = 0; n < 8; n++) {
                probe.release(NAMES[n] + " 1.0.0 needs " + NAMES[(n + skip) % 8] + " *", n);
            }
            probe.want("c *", 1);
            installed(8, probe).currentIs(0, 0, 1, 0, 2, 0, 3, 0, 4, 0, 5, 0, 6, 0, 7, 0);
        }
    }

    private static void twoCirclesThatShareOne() {
        // Both ways lead through b: all are one circle.
        installed(3, Probe.withReleases("a 1.0.0 needs b *", "b 1.0.0 needs a * needs c *", "c 1.0.0 needs b *")
                .wanting("a *")).currentIs(0, 0, 1, 0, 2, 0);
        // One way leads from a circle to the other, none back.
        installed(4, Probe.withReleases("a 1.0.0 needs b *", "b 1.0.0 needs a * needs d *", "c 1.0.0 needs d *",
                "d 1.0.0 needs c *").wanting("a *")).currentIs(2, 0, 3, 0, 0, 1, 1, 1);
    }

    /** "of several the one in which the least name of them all is; in a circle by names". */
    private static void circlesSideBySide() {
        installed(4, Probe.withReleases("a 1.0.0 needs d *", "b 1.0.0 needs c *", "c 1.0.0 needs b *",
                "d 1.0.0 needs a *").wanting("a *", "b *")).currentIs(0, 0, 3, 0, 1, 1, 2, 1);
        installed(4, Probe.withReleases("a 1.0.0 needs c *", "b 1.0.0 needs d *", "c 1.0.0 needs a *",
                "d 1.0.0 needs b *").wanting("d *", "c *")).currentIs(0, 0, 2, 0, 1, 1, 3, 1);
        // The greatest name of all stands before others for the sake of the least one.
        installed(3, Probe.withReleases("z 1.0.0 needs a *", "b 1.0.0", "a 1.0.0 needs z *").wanting("z *", "b *"))
                .currentIs(2, 0, 0, 0, 1, 1);
        installed(3, Probe.withReleases("z 1.0.0 needs b *", "a 1.0.0", "b 1.0.0 needs z *").wanting("z *", "a *"))
                .currentIs(1, 0, 2, 1, 0, 1);
        // Names by bytes, as they came in or not.
        installed(4, Probe.withReleases("b 1.0.0", "ab 1.0.0", "aa 1.0.0", "a 1.0.0")
                .wanting("a *", "b *", "aa *", "ab *")).currentIs(3, 0, 2, 1, 1, 2, 0, 3);
    }

    /** "one that needs nothing outside itself and the circles before it in the set". */
    private static void leastNameOfThoseReady() {
        // a waits for h; of b, c and h, which need nothing, b and c come first; then h, and a at once behind it.
        installed(5, Probe.withReleases("a 1.0.0 needs h *", "b 1.0.0", "c 1.0.0", "h 1.0.0", "i 1.0.0")
                .wanting("a *", "b *", "c *", "i *")).currentIs(1, 0, 2, 1, 3, 2, 0, 3, 4, 4);
        // a is ready as soon as b is placed, and is before c then.
        installed(3, Probe.withReleases("a 1.0.0 needs b *", "b 1.0.0", "c 1.0.0").wanting("a *", "c *"))
                .currentIs(1, 0, 0, 1, 2, 2);
    }

    /** A circle waits as a whole for what one of it needs, whichever of it that is and whatever its name is. */
    private static void circleWaitsForWhatAnyOfItNeeds() {
        for (int step = 1; step <= 2; step++) {
            for (int needing = 0; needing < 3; needing++) {
                String[] texts = new String[5];
                for (int n = 0; n < 3; n++) {
                    texts[n] = NAMES[2 * n + 1] + " 1.0.0 needs " + NAMES[2 * ((n + step) % 3) + 1] + " *";
                }
                texts[3] = "z 1.0.0";
                texts[4] = "c 1.0.0";
                String circle = texts[needing];
                texts[needing] = circle + " needs z *";
                installed(5, Probe.withReleases(texts).wanting("d *", "c *")).currentIs(4, 0, 3, 1, 0, 2, 1, 2, 2, 2);
                texts[needing] = circle + " needs c *";
                installed(5, Probe.withReleases(texts).wanting("d *", "z *")).currentIs(4, 0, 0, 1, 1, 1, 2, 1, 3, 2);
                texts[3] = "a 1.0.0";
                texts[needing] = circle + " needs a *";
                installed(5, Probe.withReleases(texts).wanting("f *", "c *")).currentIs(3, 0, 0, 1, 1, 1, 2, 1, 4, 2);
            }
        }
    }

    private static void needsBeforeWhatNeedsThem() {
        installed(4, Probe.withReleases("a 1.0.0 needs b * needs c *", "b 1.0.0 needs d *", "c 1.0.0 needs d *",
                "d 1.0.0").wanting("a *")).currentIs(3, 0, 1, 1, 2, 2, 0, 3);
        installed(4, Probe.withReleases("d 1.0.0 needs b * needs c *", "b 1.0.0 needs a *", "c 1.0.0 needs a *",
                "a 1.0.0").wanting("d *")).currentIs(3, 0, 1, 1, 2, 2, 0, 3);
        // The sixth needs counts as the first does.
        installed(7, Probe.withReleases("a 1.0.0 needs b * needs c * needs d * needs e * needs f * needs g *",
                "b 1.0.0", "c 1.0.0", "d 1.0.0", "e 1.0.0", "f 1.0.0", "g 1.0.0").wanting("a *"))
                .currentIs(1, 0, 2, 1, 3, 2, 4, 3, 5, 4, 6, 5, 0, 6);
    }

    private static void breaksAreNoNeeds() {
        installed(2, Probe.withReleases("a 1.0.0 breaks b >1.0.0", "b 1.0.0 breaks a >1.0.0").wanting("a *", "b *"))
                .currentIs(0, 0, 1, 1);
        installed(2, Probe.withReleases("a 1.0.0 breaks b >1.0.0", "b 1.0.0 needs a *").wanting("b *"))
                .currentIs(0, 0, 1, 1);
    }

    /** "A needs B: a needs of A has B's name". */
    private static void needsByNameWhateverTheRange() {
        installed(2, Probe.withReleases("a 1.0.0 needs b 1.0.0 || 2.0.0", "b 1.0.0", "b 2.0.0").wanting("a *"))
                .currentIs(2, 0, 0, 1);
        installed(2, Probe.withReleases("a 1.0.0 needs b >=1.0.0 needs b <=1.0.0", "b 1.0.0 needs a ^1.0.0", "b 2.0.0")
                .wanting("a *")).currentIs(0, 0, 1, 0);
    }

    /** From a set to the same one there are no steps, and those of before are gone. */
    private static void noSteps() {
        Probe probe = installed(1, Probe.withReleases("a 1.0.0").wanting("a *"));
        probe.stepsAre(0, 1);
        probe.install(0, -1, 1);
        probe.stepsAre();
        probe.rollback(-1, 1);
        probe.stepsAre();
        probe.rollback(-1, 0);
        probe.stepsAre(0, 0);
        Probe empty = new Probe();
        empty.install(0, -1, 0);
        empty.stepsAre();
        empty.rollback(-1, 0);
        empty.stepsAre();
    }

    /** The most that there can be: eight go and eight come. */
    private static void sixteenSteps() {
        Probe probe = installed(8, withChainOfEight());
        for (int n = 0; n < 8; n++) {
            probe.release(NAMES[n] + " 2.0.0" + (n == 0 ? "" : " needs " + NAMES[n - 1] + " >1.0.0"), 8 + n);
        }
        probe.want("a >1.0.0", 1);
        probe.want("h >1.0.0", 2);
        probe.install(0, -1, 8);
        probe.stepsAre(0, 0, 1, 0, 2, 0, 3, 0, 4, 0, 5, 0, 6, 0, 7, 0,
                8, 1, 9, 1, 10, 1, 11, 1, 12, 1, 13, 1, 14, 1, 15, 1);
        probe.step(15, 0, 15);
        probe.step(16, 0, NONE);
        probe.step(17, 1, NONE);
        probe.rollback(-1, 8);
        probe.stepsAre(15, 0, 14, 0, 13, 0, 12, 0, 11, 0, 10, 0, 9, 0, 8, 0,
                7, 1, 6, 1, 5, 1, 4, 1, 3, 1, 2, 1, 1, 1, 0, 1);
    }

    /** "in the opposite order of the first; then those of the other ... in its order": in circles too. */
    private static void goingInOppositeOrder() {
        Probe probe = installed(4, Probe.withReleases("a 1.0.0 needs d *", "b 1.0.0 needs a *", "c 1.0.0",
                "d 1.0.0 needs a *").wanting("b *", "c *"));
        probe.currentIs(0, 0, 3, 0, 1, 1, 2, 2);
        probe.stepsAre(0, 1, 3, 1, 1, 1, 2, 1);
        probe.unwant("b", 1);
        probe.unwant("c", 0);
        probe.install(0, -1, 0);
        probe.stepsAre(2, 0, 1, 0, 3, 0, 0, 0);
    }

    /** "releases are the same by their numbers". */
    private static void sameByNumbers() {
        Probe probe = installed(1, Probe.withReleases("a 1.0.0 owns p").wanting("a *"));
        probe.drop(0, 0);
        probe.release("a 1.0.0 owns p", 1);
        probe.install(0, -1, 1);
        probe.stepsAre(0, 0, 1, 1);
        probe.rollback(-1, 1);
        probe.stepsAre(1, 0, 0, 1);
    }

    private static void someStay() {
        Probe probe = installed(3, Probe.withReleases("a 1.0.0", "b 1.0.0", "c 1.0.0", "d 1.0.0")
                .wanting("a *", "b *", "c *"));
        probe.unwant("b", 2);
        probe.want("d *", 3);
        probe.install(0, -1, 3);
        probe.currentIs(0, 0, 2, 1, 3, 2);
        probe.stepsAre(1, 0, 3, 1);
        probe.release("a 2.0.0 needs c *", 4);
        probe.install(1, -1, 3);
        probe.currentIs(2, 0, 4, 1, 3, 2);
        probe.stepsAre(0, 0, 4, 1);
        probe.unwant("d", 2);
        probe.install(0, -1, 2);
        probe.stepsAre(3, 0);
        probe.want("d *", 3);
        probe.install(0, -1, 3);
        probe.stepsAre(3, 1);
    }

    /** "Of the steps of the latest install or rollback that was done". */
    private static void stepsOfTheLatestThatWasDone() {
        Probe probe = installed(1, Probe.withReleases("a 1.0.0 owns p", "a 2.0.0", "b 1.0.0 owns p")
                .wanting("a <2.0.0"));
        probe.want("a *", 1);
        int[] cuts = {0, 1, MOST};
        for (int cut : cuts) {
            probe.install(1, cut, CUT);
            probe.stepsAre(0, 1);
            probe.rollback(cut, CUT);
            probe.stepsAre(0, 1);
        }
        probe.install(2, -1, REFUSED);
        probe.stepsAre(0, 1);
        probe.want("a <2.0.0", 1);
        probe.want("b *", 2);
        probe.install(1, -1, CLASH);
        probe.stepsAre(0, 1);
        probe.want("x *", 3);
        probe.install(1, -1, NONE);
        probe.stepsAre(0, 1);
        probe.drop(0, 2);
        probe.stepsAre(0, 1);
        probe.rollback(-1, 0);
        probe.stepsAre(0, 0);
        probe.rollback(-1, NONE);
        probe.stepsAre(0, 0);
    }

    private static void stepsOfARollback() {
        Probe probe = installed(3, Probe.withReleases("a 1.0.0 needs c *", "c 1.0.0", "b 1.0.0", "c 2.0.0 needs b *")
                .wanting("a *", "b *", "c <2.0.0"));
        probe.currentIs(2, 0, 1, 1, 0, 2);
        probe.want("c *", 3);
        probe.install(1, -1, 3);
        probe.currentIs(2, 0, 3, 1, 0, 2);
        probe.stepsAre(1, 0, 3, 1);
        probe.unwant("c", 2);
        probe.unwant("b", 1);
        probe.install(1, -1, 2);
        probe.currentIs(1, 0, 0, 1);
        probe.stepsAre(3, 0, 2, 0, 1, 1);
        probe.rollback(-1, 3);
        probe.stepsAre(1, 0, 2, 1, 3, 1);
        probe.rollback(-1, 3);
        probe.stepsAre(3, 0, 1, 1);
        probe.rollback(-1, 0);
        probe.stepsAre(0, 0, 1, 0, 2, 0);
    }
}
