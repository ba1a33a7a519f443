/** The boundaries of THE INDEX and ROOTS, and of the promises 4 (release) to 7 (unwant). */
public final class IndexBoundariesTest {
    private static final int LEAST = Integer.MIN_VALUE;
    private static final int MOST = Integer.MAX_VALUE;
    private static final int FAULT = PackageKeeper.FAULT;
    private static final int FULL = PackageKeeper.FULL;
    private static final int NONE = PackageKeeper.NONE;
    private static final int THERE = PackageKeeper.THERE;
    private static final String[] NAMES = {"a", "b", "c", "d", "e", "f", "g", "h", "i"};

    private IndexBoundariesTest() {
    }

    public static void main(String[] args) {
        atMostThirtyTwo();
        atMostThirtyTwoOfFewNames();
        placeThirtyTwoIsSolvedToo();
        atMostEightNames();
        atMostFiveOfEach();
        noTwoOfOnePrecedence();
        faultThenThereThenFull();
        numbersAsTheyComeIn();
        numbersAreGivenOnce();
        refusedReleaseChangesNothing();
        dropsAtTheNumbers();
        dropMakesRoom();
        dropOfNoneChangesNothing();
        dropLeavesGenerations();
        atMostSixRoots();
        rootInPlaceOfOne();
        wantTexts();
        unwantTexts();
        unwantLeavesTheOthers();
        refusedWantChangesNothing();
        refusedUnwantChangesNothing();
        Check.finish();
    }

    /** So many releases of eight names, the first of them a, four of each name. */
    private static Probe withMany(int releases) {
        Probe probe = new Probe();
        for (int number = 0; number < releases; number++) {
            probe.release(NAMES[number % 8] + " 1.0." + number / 8, number);
        }
        probe.count(0, releases);
        return probe;
    }

    /** "at a time at most 32". */
    private static void atMostThirtyTwo() {
        Probe probe = withMany(31);
        probe.release("a 2.0.0", 31);
        probe.count(0, 32);
        for (int n = 0; n < 8; n++) {
            probe.release(NAMES[n] + " 3.0.0", FULL);
        }
        probe.release("i 3.0.0", FULL);
        probe.count(0, 32);
        probe.drop(3, 31);
        probe.release("h 3.0.0", 32);
        probe.count(0, 32);
        probe.release("d 3.0.0", FULL);
        probe.count(0, 32);
    }

    /** 32 of seven names: no more of a name that has room, and no eighth name. */
    private static void atMostThirtyTwoOfFewNames() {
        Probe probe = new Probe();
        for (int number = 0; number < 32; number++) {
            probe.release(NAMES[number / 5] + " 1.0." + number % 5, number);
        }
        probe.release("g 1.0.2", FULL);
        probe.release("h 1.0.0", FULL);
        probe.drop(0, 31);
        probe.release("h 1.0.0", 32);
        probe.release("i 1.0.0", FULL);
        probe.release("g 1.0.2", FULL);
        probe.count(0, 32);
    }

    /** The last of 32 places is one as others: it is found, needed, broken and dropped. */
    private static void placeThirtyTwoIsSolvedToo() {
        Probe probe = withMany(31);
        probe.release("h 0.0.1 breaks g >1.0.0", 31);
        probe.want("h <1.0.0", 1);
        probe.bestIs(31);
        probe.want("g *", 2);
        probe.bestIs(6, 31);
        probe.install(0, -1, 2);
        probe.currentIs(6, 0, 31, 1);
        probe.drop(31, 31);
        probe.hasNoValidSet();
        probe.release("h 0.0.1", 32);
        probe.bestIs(30, 32);
    }

    /** "of at most 8 names". */
    private static void atMostEightNames() {
        Probe probe = new Probe();
        for (int n = 0; n < 8; n++) {
            probe.release(NAMES[n] + " 1.0.0", n);
        }
        probe.release("i 1.0.0", FULL);
        probe.release("aa 1.0.0", FULL);
        probe.release("h 1.0.1", 8);
        // As long as one release has the name, it is one of the eight.
        probe.drop(7, 8);
        probe.release("i 1.0.0", FULL);
        probe.drop(8, 7);
        probe.release("i 1.0.0", 9);
        probe.release("h 1.0.0", FULL);
        probe.release("a 1.0.1", 10);
        probe.count(0, 9);
        // Names that are needed, broken or wanted alone are none of the index.
        Probe other = Probe.withReleases("a 1.0.0 needs q * needs r * needs s * breaks t * breaks u * breaks v *")
                .wanting("m *", "n *", "o *");
        for (int n = 1; n < 8; n++) {
            other.release(NAMES[n] + " 1.0.0", n);
        }
        other.release("i 1.0.0", FULL);
    }

    /** "5 of each". */
    private static void atMostFiveOfEach() {
        Probe probe = new Probe();
        for (int v = 0; v < 5; v++) {
            probe.release("a 1.0." + v, v);
        }
        probe.release("a 1.0.5", FULL);
        probe.release("a 0.9.9", FULL);
        for (int v = 0; v < 5; v++) {
            probe.release("b 1.0." + v, 5 + v);
        }
        probe.release("b 1.0.5", FULL);
        probe.drop(0, 9);
        probe.release("b 1.0.5", FULL);
        probe.release("a 1.0.5", 10);
        probe.release("a 1.0.6", FULL);
        probe.want("a *", 1);
        probe.bestIs(10);
    }

    /** "no two of a name with the same precedence"; "THERE if there is one of its name with the same precedence". */
    private static void noTwoOfOnePrecedence() {
        Probe probe = Probe.withReleases("a 1.0.1-b.1");
        probe.release("a 1.0.1-b.1", THERE);
        probe.release("a 1.0.1-b.1 owns p needs b *", THERE);
        probe.release("a 1.0.1-b.0", 1);
        probe.release("a 1.0.1-b.1.0", 2);
        probe.release("a 1.0.1", 3);
        probe.release("a 1.0.1", THERE);
        probe.release("b 1.0.1-b.1", 4);
        probe.release("b 1.0.1-b.1", THERE);
        probe.release("aa 1.0.1-b.1", 5);
        probe.drop(0, 5);
        probe.release("a 1.0.1-b.1", 6);
        probe.release("a 1.0.1-b.1", THERE);
        probe.count(0, 6);
        String[] unlike = {"1.1.1", "0.1.1", "2.1.1", "1.0.1", "1.2.1", "1.1.0", "1.1.2", "1.1.1-0", "1.1.1-a",
            "1.1.1-A", "1.1.1-a.0", "1.1.1-a.a.a.a", "1.1.1-a.a.a.b", "11.1.1", "1.11.1", "1.1.11"};
        for (int i = 0; i < unlike.length; i++) {
            for (int j = 0; j < unlike.length; j++) {
                Probe pair = Probe.withReleases("a " + unlike[i]);
                pair.release("a " + unlike[j], i == j ? THERE : 1);
            }
        }
    }

    /** "FAULT if it is none; THERE ...; else FULL if there would be too many". */
    private static void faultThenThereThenFull() {
        Probe probe = withMany(32);
        probe.release("a 1.0.0 needs", FAULT);
        probe.release("i 1.0", FAULT);
        probe.release("a 1.0.0", THERE);
        probe.release("h 1.0.3 owns p", THERE);
        probe.release("h 1.0.4", FULL);
        Probe five = Probe.withReleases("a 1.0.0", "a 1.0.1", "a 1.0.2", "a 1.0.3", "a 1.0.4");
        five.release("a 1.0.5 owns", FAULT);
        five.release("a 1.0.4", THERE);
        five.release("a 1.0.5", FULL);
    }

    /** "numbered from 0 as they come in (what is refused has no number)". */
    private static void numbersAsTheyComeIn() {
        Probe probe = new Probe();
        probe.release("b", FAULT);
        probe.release("b 1.0.0", 0);
        probe.release("b 1.0.0", THERE);
        probe.release("a 2.0.0", 1);
        probe.release("", FAULT);
        probe.release("a 1.0.0", 2);
        probe.release("a 4.0.0", 3);
        probe.release("a 5.0.0", 4);
        probe.release("a 3.0.0", 5);
        probe.release("a 6.0.0", FULL);
        probe.release("c 1.0.0", 6);
        probe.want("a *", 1);
        probe.want("b *", 2);
        probe.want("c *", 3);
        probe.bestIs(4, 0, 6);
        probe.want("a <4.0.0", 3);
        probe.bestIs(5, 0, 6);
    }

    /** "those that are dropped are there no more, their numbers are given to no other one". */
    private static void numbersAreGivenOnce() {
        Probe probe = new Probe();
        for (int number = 0; number < 100; number++) {
            probe.release("a 1.0.0", number);
            probe.drop(number, 0);
        }
        probe.drop(0, NONE);
        probe.drop(99, NONE);
        probe.drop(100, NONE);
        probe.release("a 1.0.0", 100);
        probe.drop(99, NONE);
        probe.drop(100, 0);
        // Also if the one that came last goes, and if one goes that came first.
        Probe some = Probe.withReleases("a 1.0.0", "a 1.0.1", "a 1.0.2");
        some.drop(2, 2);
        some.release("a 1.0.3", 3);
        some.drop(0, 2);
        some.release("a 1.0.0", 4);
        some.drop(0, NONE);
        some.drop(2, NONE);
        some.count(0, 3);
    }

    private static void refusedReleaseChangesNothing() {
        Probe probe = Probe.withReleases("a 1.0.0", "a 1.0.1", "a 1.0.2", "a 1.0.3", "a 1.0.4 needs b *", "b 1.0.0")
                .wanting("a *");
        probe.install(0, -1, 2);
        String before = probe.picture();
        probe.release("a 1.0.4", THERE);
        probe.release("a 1.0.3 owns p", THERE);
        probe.release("a 2.0.0", FULL);
        probe.release("a 2.0.0 owns", FAULT);
        probe.isAs(before, "refused releases");
        // Neither its needs nor its paths took the place of those that are there.
        probe.drop(5, 5);
        probe.bestIs(3);
        probe.install(0, -1, 1);
        probe.owner("p", NONE);
        probe.release("b 1.0.0", 6);
    }

    /** "A release goes from the index: how many are there then. NONE if there is none with this number." */
    private static void dropsAtTheNumbers() {
        int[] anyNumbers = {LEAST, -2, -1, 0, 1, MOST};
        for (int number : anyNumbers) {
            new Probe().drop(number, NONE);
        }
        Probe probe = Probe.withReleases("b 1.0.0", "a 1.0.0", "c 1.0.0");
        int[] noNumbers = {LEAST, -3, -2, -1, 3, 4, 32, MOST};
        for (int number : noNumbers) {
            probe.drop(number, NONE);
        }
        probe.count(0, 3);
        probe.drop(2, 2);
        probe.drop(2, NONE);
        probe.drop(0, 1);
        probe.drop(0, NONE);
        probe.drop(1, 0);
        probe.drop(1, NONE);
        probe.count(0, 0);
        Probe many = withMany(32);
        many.drop(32, NONE);
        many.drop(31, 31);
        many.drop(31, NONE);
        many.drop(0, 30);
        for (int number = 1; number < 31; number++) {
            many.drop(number, 30 - number);
        }
        many.count(0, 0);
    }

    private static void dropMakesRoom() {
        Probe probe = Probe.withReleases("a 1.0.0", "a 1.0.1", "b 1.0.0");
        probe.want("a *", 1);
        probe.bestIs(1);
        probe.drop(1, 2);
        probe.bestIs(0);
        probe.release("a 1.0.1", 3);
        probe.bestIs(3);
        probe.drop(3, 2);
        probe.drop(0, 1);
        probe.hasNoValidSet();
        probe.release("a 0.1.0", 4);
        probe.bestIs(4);
    }

    private static void dropOfNoneChangesNothing() {
        Probe probe = Probe.withReleases("a 1.0.0 needs b *", "b 1.0.0", "b 1.0.1").wanting("a *");
        probe.install(0, -1, 2);
        probe.drop(1, 2);
        String before = probe.picture();
        int[] noNumbers = {LEAST, -1, 1, 3, MOST};
        for (int number : noNumbers) {
            probe.drop(number, NONE);
        }
        probe.isAs(before, "drop of none");
        probe.release("b 1.0.2", 3);
    }

    private static void dropLeavesGenerations() {
        Probe probe = Probe.withReleases("a 1.0.0 owns p").wanting("a *");
        probe.install(0, -1, 1);
        probe.drop(0, 0);
        probe.currentIs(0, 0);
        probe.stepsAre(0, 1);
        probe.owner("p", 0);
        probe.count(3, 2);
        probe.count(4, 1);
        probe.count(1, 1);
    }

    /** "ROOTS: at most 6 names, with a RANGE each"; "how many there are"; "FULL if six others are roots". */
    private static void atMostSixRoots() {
        Probe probe = new Probe();
        for (int n = 0; n < 6; n++) {
            probe.count(1, n);
            probe.want(NAMES[n] + " *", n + 1);
        }
        probe.want("g *", FULL);
        probe.want("aa *", FULL);
        probe.count(1, 6);
        // Of five others and one of the name itself it is no more than six.
        for (int n = 0; n < 6; n++) {
            probe.want(NAMES[n] + " 1.0.0", 6);
        }
        probe.unwant("c", 5);
        probe.want("g *", 6);
        probe.want("c *", FULL);
        probe.want("g 1.0.0", 6);
        probe.unwant("g", 5);
        probe.unwant("a", 4);
        probe.want("c *", 5);
        probe.want("h *", 6);
        probe.want("i *", FULL);
        probe.count(1, 6);
    }

    /** "is a root then, in place of one of this name". */
    private static void rootInPlaceOfOne() {
        Probe probe = Probe.withReleases("a 1.0.0", "a 2.0.0", "a 3.0.0", "b 1.0.0");
        probe.want("b *", 1);
        probe.want("a 1.0.0", 2);
        probe.bestIs(0, 3);
        probe.want("a 2.0.0", 2);
        probe.bestIs(1, 3);
        probe.want("a >3.0.0", 2);
        probe.hasNoValidSet();
        probe.want("a >=3.0.0", 2);
        probe.bestIs(2, 3);
        probe.want("b >1.0.0", 2);
        probe.hasNoValidSet();
        probe.unwant("b", 1);
        probe.bestIs(2);
        probe.unwant("a", 0);
        probe.bestIs();
    }

    /** "The TAPE, NAME RANGE ... FAULT if it is not that", ahead of FULL. */
    private static void wantTexts() {
        String[] faults = {"", "a", "*", "* a", "1.0.0", "a 1", "a * b", "a b *", "a a *", "a * ||", "a || *", "a ||",
            "a * needs", "a * needs b *", "a * breaks b *", "a * owns p", "a needs b *", "needs *", "breaks *",
            "owns *", "A *", "abcdefghi *", "a ^", "a =", "a 1.0.0 1.0.0 1.0.0 1.0.0 1.0.0", "a * || * || * || * || *"};
        for (String fault : faults) {
            new Probe().want(fault, FAULT);
        }
        Probe probe = new Probe().wanting("a *", "b *", "c *", "d *", "e *", "f *");
        probe.want("g", FAULT);
        probe.want("a", FAULT);
        probe.want("g * needs", FAULT);
        probe.want("g *", FULL);
    }

    /** "The TAPE, NAME, is a root no more: how many there are. FAULT if it is no name; NONE if it was none." */
    private static void unwantTexts() {
        String[] faults = {"", "a *", "a a", "a b", "*", "1.0.0", "a 1.0.0", "needs", "breaks", "owns", "A", "a1",
            "abcdefghi", "a ||"};
        for (String fault : faults) {
            Probe probe = new Probe().wanting("a *");
            probe.unwant(fault, FAULT);
            probe.count(1, 1);
        }
        Probe probe = new Probe();
        probe.unwant("a", NONE);
        probe.wanting("a *", "b *", "c *", "d *", "e *", "f *");
        probe.unwant("g", NONE);
        probe.unwant("aa", NONE);
        probe.count(1, 6);
        for (int n = 5; n >= 0; n--) {
            probe.unwant(NAMES[n], n);
            probe.unwant(NAMES[n], NONE);
        }
        probe.count(1, 0);
        probe.unwant("a", NONE);
        probe.want("a *", 1);
        // A name that releases have or need is no root for that.
        Probe other = Probe.withReleases("a 1.0.0 needs b *", "b 1.0.0").wanting("a *");
        other.unwant("b", NONE);
        other.bestIs(0, 1);
    }

    /** The other roots stay, each with its range, whichever of six goes. */
    private static void unwantLeavesTheOthers() {
        for (int gone = 0; gone < 6; gone++) {
            Probe probe = new Probe();
            for (int n = 0; n < 6; n++) {
                for (int v = 0; v < 5; v++) {
                    probe.release(NAMES[n] + " 1.0." + v, 5 * n + v);
                }
            }
            for (int n = 0; n < 6; n++) {
                probe.want(NAMES[n] + " <=1.0." + n % 5, n + 1);
            }
            probe.best(-1, 6);
            probe.unwant(NAMES[gone], 5);
            probe.best(-1, 5);
            for (int n = 0; n < 6; n++) {
                if (n != gone) {
                    probe.best(n < gone ? n : n - 1, 5 * n + n % 5);
                }
            }
        }
    }

    private static void refusedWantChangesNothing() {
        Probe probe = Probe.withReleases("a 1.0.0", "a 2.0.0", "b 1.0.0")
                .wanting("a <2.0.0", "b *", "c *", "d *", "e *", "f *");
        probe.want("g *", FULL);
        probe.want("a", FAULT);
        probe.want("a * needs", FAULT);
        probe.unwant("g", NONE);
        probe.count(1, 6);
        String[] rest = {"c", "d", "e", "f"};
        for (int i = 0; i < rest.length; i++) {
            probe.hasNoValidSet();
            probe.unwant(rest[i], 5 - i);
        }
        // The range of a is the one from before, too.
        probe.bestIs(0, 2);
        probe.install(0, -1, 2);
        String before = probe.picture();
        probe.want("a ^", FAULT);
        probe.want("b >1.0.0 x", FAULT);
        probe.isAs(before, "want with a fault");
        probe.install(0, -1, 2);
        probe.stepsAre();
    }

    private static void refusedUnwantChangesNothing() {
        Probe probe = Probe.withReleases("a 1.0.0", "b 1.0.0").wanting("a *", "b *");
        probe.install(0, -1, 2);
        String before = probe.picture();
        probe.unwant("c", NONE);
        probe.unwant("a *", FAULT);
        probe.unwant("needs", FAULT);
        probe.unwant("", FAULT);
        probe.isAs(before, "unwant");
        probe.unwant("a", 1);
        probe.bestIs(1);
    }
}
