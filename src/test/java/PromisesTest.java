/** Promise by promise: ordinary inputs, the edges that the document names, and wrong inputs. */
public final class PromisesTest {
    private static final int LEAST = Integer.MIN_VALUE;
    private static final int MOST = Integer.MAX_VALUE;

    private PromisesTest() {
    }

    public static void main(String[] args) {
        newObject();
        feed();
        end();
        words();
        releaseTexts();
        releaseClauses();
        releaseLimits();
        drop();
        want();
        unwant();
        installKeepsOrRenews();
        installRefusals();
        installChecksReachAgain();
        rollback();
        bestByWords();
        bestByNeedsAndBreaks();
        bestByReach();
        bestOfAnOddRing();
        bestOfMany();
        currentOrder();
        steps();
        owner();
        comparePrecedence();
        compareFaults();
        matchTests();
        matchRanges();
        matchFaults();
        counts();
        Check.finish();
    }

    private static void newObject() {
        PackageKeeper keeper = new PackageKeeper();
        Check.counts(keeper, 0, 0, 0, 1, 0, 0);
        Check.bestIs(keeper);
        Check.currentIs(keeper);
        Check.stepsAre(keeper);
        Check.rollback(keeper, -1, PackageKeeper.NONE);
        PackageKeeper other = new PackageKeeper();
        Check.release(other, "a 1.0.0", 0);
        Check.counts(keeper, 0, 0, 0, 1, 0, 0);
    }

    private static void feed() {
        PackageKeeper keeper = new PackageKeeper();
        for (int i = 1; i <= 20; i++) {
            Check.due("feed", keeper.feed(-1, LEAST, MOST, 0, 1), 20 * i);
        }
        Check.due("feed beyond 400", keeper.feed(0, 0, 0, 0, 0), PackageKeeper.FULL);
        Check.due("bytes", keeper.count(5), 400);
        Check.due("end", keeper.end(381), 381);
        Check.due("feed to 401", keeper.feed(0, 0, 0, 0, 0), PackageKeeper.FULL);
        Check.due("bytes", keeper.count(5), 381);
        Check.due("end", keeper.end(380), 380);
        Check.due("feed to 400", keeper.feed(0, 0, 0, 0, 0), 400);
        keeper.end(0);
        // "1.2.3 1.2.4", the highest byte of each int first.
        Check.due("feed", keeper.feed(0x312e322e, 0x3320312e, 0x322e3420, 0x20202020, 0x20202020), 20);
        Check.due("compare", keeper.compare(), -1);
        // Bytes of a second feed stand behind those of the first.
        Check.tape(keeper, "1.2.3");
        Check.tape(keeper, "4 1.2.33");
        Check.due("compare", keeper.compare(), 1);
    }

    private static void end() {
        PackageKeeper keeper = new PackageKeeper();
        Check.due("end(0)", keeper.end(0), 0);
        Check.due("end(1)", keeper.end(1), PackageKeeper.REFUSED);
        Check.due("end(-1)", keeper.end(-1), PackageKeeper.REFUSED);
        keeper.feed(0, 0, 0, 0, 0);
        Check.due("end(21)", keeper.end(21), PackageKeeper.REFUSED);
        Check.due("end least", keeper.end(LEAST), PackageKeeper.REFUSED);
        Check.due("end most", keeper.end(MOST), PackageKeeper.REFUSED);
        Check.due("bytes", keeper.count(5), 20);
        Check.due("end(20)", keeper.end(20), 20);
        Check.due("end(7)", keeper.end(7), 7);
        Check.due("end(8)", keeper.end(8), PackageKeeper.REFUSED);
        Check.due("bytes", keeper.count(5), 7);
        Check.due("end(0)", keeper.end(0), 0);
        Check.due("bytes", keeper.count(5), 0);
    }

    private static void words() {
        PackageKeeper keeper = new PackageKeeper();
        Check.compare(keeper, "   1.0.0     2.0.0   ", -1);
        Check.compare(keeper, "1.0.0\t2.0.0", PackageKeeper.FAULT);
        Check.compare(keeper, "1.0.0 2.0.0\0", PackageKeeper.FAULT);
        Check.compare(keeper, "1.0.0 2.0.0\n", PackageKeeper.FAULT);
        Check.compare(keeper, "1.0.0 \u00a0 2.0.0", PackageKeeper.FAULT);
        Check.compare(keeper, "1.0.\u00b1 2.0.0", PackageKeeper.FAULT);
        // The text of a call before is gone, also behind a shorter one.
        Check.match(keeper, "1.0.0 >=1.0.0 <2.0.0", 1);
        Check.match(keeper, "1.0.0 >=1.0.0", 1);
        Check.match(keeper, "1.0.0 ", PackageKeeper.FAULT);
        StringBuilder wide = new StringBuilder("1.0.0");
        for (int i = 0; i < 390; i++) {
            wide.append(' ');
        }
        Check.compare(keeper, wide.append("1.0.1").toString(), -1);
    }

    private static void releaseTexts() {
        PackageKeeper keeper = new PackageKeeper();
        String[] faults = {
            "", " ", "a", "a ", "1.0.0", "1.0.0 a", "a 1", "a 1.0", "a 1.0.0.0", "a 1.0.0 b", "a b 1.0.0",
            "abcdefghi 1.0.0", "aB 1.0.0", "a1 1.0.0", "a- 1.0.0", "needs 1.0.0", "breaks 1.0.0", "owns 1.0.0",
            "a =1.0.0", "a *", "a 1.0.0 1.0.0", "a 1.0.0 needs", "a 1.0.0 needs b", "a 1.0.0 needs * b",
            "a 1.0.0 needs needs *", "a 1.0.0 needs owns *", "a 1.0.0 breaks breaks *", "a 1.0.0 breaks b",
            "a 1.0.0 needs b * ||", "a 1.0.0 needs b || *", "a 1.0.0 needs b * || || *",
            "a 1.0.0 needs b * || owns p", "a 1.0.0 needs B *", "a 1.0.0 needs b * c", "a 1.0.0 Needs b *",
            "a 1.0.0 owns", "a 1.0.0 owns p q", "a 1.0.0 owns p_q", "a 1.0.0 owns abcdefghijklmnopqrstu",
            "a 1.0.0 owns p owns", "a 1.0.0 owns owns needs", "a 1.0.0 owns *", "a 1.0.0 need b *",
            "a 1.0.0 needsb *", "a 1.0.0 needs b * needs", "a 1.0.0 || needs b *",
        };
        for (String fault : faults) {
            Check.release(keeper, fault, PackageKeeper.FAULT);
        }
        Check.counts(keeper, 0, 0, 0, 1, 0, 0);
        Check.release(keeper, "a 1.0.0", 0);
        Check.release(keeper, "  abcdefgh   1.0.0  ", 1);
        Check.release(keeper, "need 1.0.0 owns owns owns needs owns breaks", 2);
        Check.release(keeper, "z 1.0.0 owns abcdefghijklmnopqrst owns A-./z09 owns - owns .", 3);
        Check.release(keeper, "needss 0.0.0-0 breaks own * needs a ^1.0.0 || ~2.0.0 owns / breaks a *", 4);
        Check.due("releases", keeper.count(0), 5);
    }

    private static void releaseClauses() {
        PackageKeeper keeper = new PackageKeeper();
        String needs = " needs b *";
        String breaks = " breaks b *";
        String owns = " owns p";
        Check.release(keeper, "a 1.0.0" + needs.repeat(6) + breaks.repeat(3) + owns.repeat(4), 0);
        Check.release(keeper, "a 1.0.1" + needs.repeat(7), PackageKeeper.FAULT);
        Check.release(keeper, "a 1.0.1" + breaks.repeat(4), PackageKeeper.FAULT);
        Check.release(keeper, "a 1.0.1" + owns.repeat(5), PackageKeeper.FAULT);
        Check.release(keeper, "a 1.0.1" + needs.repeat(6) + breaks.repeat(3) + owns.repeat(5), PackageKeeper.FAULT);
        Check.release(keeper, "a 1.0.1" + needs.repeat(6) + breaks.repeat(3) + owns.repeat(4) + " b",
                PackageKeeper.FAULT);
        Check.release(keeper, "a 1.0.1" + owns.repeat(2) + needs.repeat(3) + breaks.repeat(1) + owns.repeat(2)
                + breaks.repeat(2) + needs.repeat(3), 1);
    }

    private static void releaseLimits() {
        PackageKeeper keeper = new PackageKeeper();
        String[] names = {"a", "b", "c", "d", "e", "f", "g", "h"};
        int number = 0;
        for (int v = 0; v < 5; v++) {
            Check.release(keeper, "a 1.0." + v, number++);
        }
        Check.release(keeper, "a 1.0.5", PackageKeeper.FULL);
        Check.release(keeper, "a 1.0.4", PackageKeeper.THERE);
        Check.release(keeper, "a 1.0.4-x", PackageKeeper.FULL);
        for (int n = 1; n < 8; n++) {
            Check.release(keeper, names[n] + " 1.0.0-rc", number++);
        }
        Check.release(keeper, "i 1.0.0", PackageKeeper.FULL);
        Check.release(keeper, "i 1.0", PackageKeeper.FAULT);
        Check.release(keeper, "b 1.0.0-rc needs a *", PackageKeeper.THERE);
        Check.release(keeper, "b 1.0.0", number++);
        for (int n = 2; n < 8; n++) {
            for (int v = 0; v < 3 && number < 31; v++) {
                Check.release(keeper, names[n] + " 2.0." + v, number++);
            }
        }
        Check.release(keeper, "h 9.0.0", 31);
        Check.due("releases", keeper.count(0), 32);
        Check.release(keeper, "b 9.0.1", PackageKeeper.FULL);
        Check.release(keeper, "h 9.0.1", PackageKeeper.FULL);
        Check.release(keeper, "i 9.0.1", PackageKeeper.FULL);
        Check.release(keeper, "h 9.0.0 owns p", PackageKeeper.THERE);
        Check.due("drop(5)", keeper.drop(5), 31);
        Check.release(keeper, "a 7.0.0", PackageKeeper.FULL);
        Check.release(keeper, "b 7.0.0", 32);
        Check.due("drop(2)", keeper.drop(2), 31);
        Check.release(keeper, "a 1.0.2", 33);
        Check.due("drop(12)", keeper.drop(12), 31);
        Check.release(keeper, "i 1.0.0", PackageKeeper.FULL);
        Check.due("drop(32)", keeper.drop(32), 30);
        Check.release(keeper, "i 1.0.0", 34);
    }

    private static void drop() {
        PackageKeeper keeper = new PackageKeeper();
        Check.due("drop of none", keeper.drop(0), PackageKeeper.NONE);
        Check.release(keeper, "b 1.0.0", 0);
        Check.release(keeper, "a 1.0.0", 1);
        Check.release(keeper, "a 2.0.0", 2);
        Check.due("drop(3)", keeper.drop(3), PackageKeeper.NONE);
        Check.due("drop(-1)", keeper.drop(-1), PackageKeeper.NONE);
        Check.due("drop least", keeper.drop(LEAST), PackageKeeper.NONE);
        Check.due("drop most", keeper.drop(MOST), PackageKeeper.NONE);
        Check.want(keeper, "a *", 1);
        Check.bestIs(keeper, 2);
        Check.due("drop(2)", keeper.drop(2), 2);
        Check.bestIs(keeper, 1);
        Check.due("drop(2) again", keeper.drop(2), PackageKeeper.NONE);
        Check.due("drop(0)", keeper.drop(0), 1);
        Check.due("drop(1)", keeper.drop(1), 0);
        Check.due("best", keeper.best(-1), PackageKeeper.NONE);
        Check.release(keeper, "a 2.0.0", 3);
        Check.bestIs(keeper, 3);
    }

    private static void want() {
        PackageKeeper keeper = new PackageKeeper();
        String[] faults = {"", "a", "*", "a * b", "needs *", "owns 1.0.0", "A *", "abcdefghi *", "a * needs b *",
            "a * owns p", "a * ||", "a ^", "a a *"};
        for (String fault : faults) {
            Check.want(keeper, fault, PackageKeeper.FAULT);
        }
        Check.due("roots", keeper.count(1), 0);
        Check.want(keeper, "a *", 1);
        Check.want(keeper, "  b   1.0.0   ||  2.0.0 ", 2);
        Check.want(keeper, "a >1.0.0", 2);
        for (int i = 3; i <= 6; i++) {
            Check.want(keeper, "c" + "x".repeat(i) + " *", i);
        }
        Check.want(keeper, "z *", PackageKeeper.FULL);
        Check.want(keeper, "z ^", PackageKeeper.FAULT);
        Check.want(keeper, "a *", 6);
        Check.due("roots", keeper.count(1), 6);
        Check.unwant(keeper, "b", 5);
        Check.want(keeper, "z *", 6);
        PackageKeeper other = new PackageKeeper();
        Check.release(other, "a 1.0.0", 0);
        Check.release(other, "a 2.0.0", 1);
        Check.want(other, "a <2.0.0", 1);
        Check.bestIs(other, 0);
        Check.want(other, "a *", 1);
        Check.bestIs(other, 1);
    }

    private static void unwant() {
        PackageKeeper keeper = new PackageKeeper();
        Check.release(keeper, "a 1.0.0", 0);
        Check.release(keeper, "b 1.0.0", 1);
        Check.release(keeper, "c 1.0.0", 2);
        Check.want(keeper, "a *", 1);
        Check.want(keeper, "b *", 2);
        Check.want(keeper, "c *", 3);
        String[] faults = {"", "a *", "a b", "needs", "breaks", "owns", "A", "abcdefghi", "1.0.0"};
        for (String fault : faults) {
            Check.unwant(keeper, fault, PackageKeeper.FAULT);
        }
        Check.unwant(keeper, "d", PackageKeeper.NONE);
        Check.unwant(keeper, "ab", PackageKeeper.NONE);
        Check.bestIs(keeper, 0, 1, 2);
        Check.unwant(keeper, " a ", 2);
        Check.bestIs(keeper, 1, 2);
        Check.unwant(keeper, "a", PackageKeeper.NONE);
        Check.unwant(keeper, "c", 1);
        Check.bestIs(keeper, 1);
        Check.unwant(keeper, "b", 0);
        Check.bestIs(keeper);
    }

    private static void installKeepsOrRenews() {
        PackageKeeper keeper = new PackageKeeper();
        Check.release(keeper, "a 1.0.0", 0);
        Check.want(keeper, "a *", 1);
        Check.install(keeper, 0, -1, 1);
        Check.release(keeper, "a 2.0.0", 1);
        Check.install(keeper, 0, -1, 1);
        Check.currentIs(keeper, 0, 0);
        Check.stepsAre(keeper);
        Check.counts(keeper, 2, 1, 1, 3, 2, 0);
        Check.install(keeper, 1, LEAST, 1);
        Check.currentIs(keeper, 1, 0);
        Check.stepsAre(keeper, 0, 0, 1, 1);
        // No more in the root's range: a new set, though how is 0.
        Check.want(keeper, "a <2.0.0", 1);
        Check.install(keeper, 0, -1, 1);
        Check.currentIs(keeper, 0, 0);
        // Dropped, and one alike is there again: the set is another one.
        Check.due("drop(0)", keeper.drop(0), 1);
        Check.release(keeper, "a 1.0.0", 2);
        Check.install(keeper, 0, -1, 1);
        Check.currentIs(keeper, 2, 0);
        Check.stepsAre(keeper, 0, 0, 2, 1);
        // A name that no release has is a root: what is current is not valid, and nothing else is.
        Check.want(keeper, "x *", 2);
        Check.install(keeper, 0, -1, PackageKeeper.NONE);
        Check.unwant(keeper, "x", 1);
        // Without roots only the set without releases is valid.
        Check.unwant(keeper, "a", 0);
        Check.install(keeper, 0, -1, 0);
        Check.currentIs(keeper);
        Check.stepsAre(keeper, 2, 0);
    }

    private static void installRefusals() {
        PackageKeeper keeper = new PackageKeeper();
        Check.release(keeper, "a 1.0.0 owns p owns p", 0);
        Check.release(keeper, "b 1.0.0 owns q owns p", 1);
        Check.want(keeper, "a *", 1);
        Check.install(keeper, 0, -1, 1);
        Check.want(keeper, "b *", 2);
        int[] hows = {-1, 2, LEAST, MOST};
        for (int how : hows) {
            Check.install(keeper, how, 0, PackageKeeper.REFUSED);
            Check.install(keeper, how, -1, PackageKeeper.REFUSED);
        }
        Check.install(keeper, 0, -1, PackageKeeper.CLASH);
        Check.install(keeper, 1, -1, PackageKeeper.CLASH);
        Check.install(keeper, 0, 0, PackageKeeper.CLASH);
        Check.want(keeper, "c *", 3);
        Check.install(keeper, 0, 0, PackageKeeper.NONE);
        Check.install(keeper, 1, -1, PackageKeeper.NONE);
        Check.unwant(keeper, "c", 2);
        Check.unwant(keeper, "b", 1);
        Check.install(keeper, 0, 0, PackageKeeper.CUT);
        Check.install(keeper, 1, 7, PackageKeeper.CUT);
        Check.install(keeper, 1, MOST, PackageKeeper.CUT);
        Check.currentIs(keeper, 0, 0);
        Check.stepsAre(keeper, 0, 1);
        Check.counts(keeper, 2, 1, 1, 2, 1, 0);
        // A clash that a version below the best would not have stays a clash.
        Check.release(keeper, "b 0.9.0", 2);
        Check.want(keeper, "b *", 2);
        Check.install(keeper, 0, -1, PackageKeeper.CLASH);
        Check.want(keeper, "b <1.0.0", 2);
        Check.install(keeper, 0, -1, 2);
        Check.currentIs(keeper, 0, 0, 2, 1);
        // Paths are the same only as a whole.
        Check.release(keeper, "c 1.0.0 owns pp owns P owns p/ owns p.", 3);
        Check.want(keeper, "c *", 3);
        Check.install(keeper, 0, -1, 3);
    }

    private static void installChecksReachAgain() {
        PackageKeeper keeper = new PackageKeeper();
        Check.release(keeper, "a 1.0.0 needs b *", 0);
        Check.release(keeper, "b 1.0.0 needs a *", 1);
        Check.release(keeper, "c 1.0.0", 2);
        Check.want(keeper, "a *", 1);
        Check.want(keeper, "c *", 2);
        Check.install(keeper, 0, -1, 3);
        // Both are still needed by each other, but no root leads to them.
        Check.unwant(keeper, "a", 1);
        Check.install(keeper, 0, -1, 1);
        Check.currentIs(keeper, 2, 0);
        Check.want(keeper, "b *", 2);
        Check.install(keeper, 0, -1, 3);
        // Another way leads to all of them: the set stays valid.
        Check.unwant(keeper, "b", 1);
        Check.want(keeper, "a *", 2);
        Check.release(keeper, "c 2.0.0", 3);
        Check.install(keeper, 0, -1, 3);
        Check.stepsAre(keeper);
    }

    private static void rollback() {
        PackageKeeper keeper = new PackageKeeper();
        Check.rollback(keeper, 0, PackageKeeper.NONE);
        Check.release(keeper, "a 1.0.0 owns p", 0);
        Check.want(keeper, "a *", 1);
        Check.install(keeper, 0, -1, 1);
        Check.due("drop(0)", keeper.drop(0), 0);
        Check.release(keeper, "a 2.0.0", 1);
        Check.install(keeper, 0, -1, 1);
        Check.rollback(keeper, 0, PackageKeeper.CUT);
        Check.rollback(keeper, MOST, PackageKeeper.CUT);
        Check.currentIs(keeper, 1, 0);
        Check.stepsAre(keeper, 0, 0, 1, 1);
        // What was dropped is in the generation as it was when that was made.
        Check.rollback(keeper, LEAST, 1);
        Check.currentIs(keeper, 0, 0);
        Check.stepsAre(keeper, 1, 0, 0, 1);
        Check.owner(keeper, "p", 0);
        Check.counts(keeper, 1, 1, 1, 2, 2, 0);
        Check.rollback(keeper, -1, 0);
        Check.currentIs(keeper);
        Check.stepsAre(keeper, 0, 0);
        Check.rollback(keeper, -1, PackageKeeper.NONE);
        Check.rollback(keeper, 5, PackageKeeper.NONE);
        Check.stepsAre(keeper, 0, 0);
        Check.counts(keeper, 1, 1, 0, 1, 2, 0);
        // At most three earlier ones are kept.
        for (int i = 0; i < 6; i++) {
            Check.install(keeper, 1, -1, 1);
            Check.due("kept", keeper.count(3), Math.min(4, i + 2));
        }
        Check.due("made", keeper.count(4), 8);
        for (int i = 0; i < 3; i++) {
            Check.rollback(keeper, -1, 1);
            Check.stepsAre(keeper);
        }
        Check.rollback(keeper, -1, PackageKeeper.NONE);
        Check.due("made", keeper.count(4), 8);
    }

    private static void bestByWords() {
        PackageKeeper keeper = new PackageKeeper();
        Check.release(keeper, "a 1.0.0", 0);
        Check.due("best(-2)", keeper.best(-2), PackageKeeper.NONE);
        Check.due("best(0)", keeper.best(0), PackageKeeper.NONE);
        Check.want(keeper, "a *", 1);
        Check.release(keeper, "a 1.0.1-rc.1", 1);
        Check.bestIs(keeper, 1);
        Check.release(keeper, "a 1.0.1-rc", 2);
        Check.bestIs(keeper, 1);
        Check.release(keeper, "a 1.0.1", 3);
        Check.bestIs(keeper, 3);
        Check.due("best(-2)", keeper.best(-2), PackageKeeper.NONE);
        Check.due("best least", keeper.best(LEAST), PackageKeeper.NONE);
        Check.due("best most", keeper.best(MOST), PackageKeeper.NONE);
        Check.want(keeper, "a <1.0.1-rc.1", 1);
        Check.bestIs(keeper, 2);
        Check.want(keeper, "a >1.0.1", 1);
        Check.due("best(-1)", keeper.best(-1), PackageKeeper.NONE);
        Check.due("best(0)", keeper.best(0), PackageKeeper.NONE);
        // Names by bytes: one that another begins with comes first.
        Check.want(keeper, "a *", 1);
        Check.release(keeper, "ab 1.0.0", 4);
        Check.release(keeper, "aab 1.0.0", 5);
        Check.release(keeper, "b 1.0.0", 6);
        Check.want(keeper, "b *", 2);
        Check.want(keeper, "ab *", 3);
        Check.want(keeper, "aab *", 4);
        Check.bestIs(keeper, 3, 5, 4, 6);
    }

    private static void bestByNeedsAndBreaks() {
        PackageKeeper keeper = new PackageKeeper();
        Check.release(keeper, "m 1.0.0 needs z >=2.0.0", 0);
        Check.release(keeper, "m 2.0.0 needs z >=3.0.0", 1);
        Check.release(keeper, "z 2.0.0", 2);
        Check.want(keeper, "m *", 1);
        Check.bestIs(keeper, 0, 2);
        Check.release(keeper, "z 3.0.0 breaks m 2.0.0", 3);
        Check.bestIs(keeper, 0, 3);
        Check.release(keeper, "z 4.0.0 breaks q *", 4);
        Check.bestIs(keeper, 1, 4);
        // At m the higher version counts before all that comes behind it.
        Check.release(keeper, "m 3.0.0 needs z <=2.0.0 needs z >=2.0.0", 5);
        Check.bestIs(keeper, 5, 2);
        // One that needs a name that nothing has, one that breaks itself, one that needs itself otherwise.
        Check.release(keeper, "m 4.0.0 needs none *", 6);
        Check.bestIs(keeper, 5, 2);
        Check.release(keeper, "m 5.0.0 breaks m >4.0.0", 7);
        Check.bestIs(keeper, 5, 2);
        PackageKeeper other = new PackageKeeper();
        Check.release(other, "m 6.0.0 needs m <6.0.0", 0);
        Check.release(other, "m 1.0.0 needs m * breaks m >1.0.0", 1);
        Check.want(other, "m *", 1);
        Check.bestIs(other, 1);
        // Needs of the same name, each of which counts.
        Check.release(other, "n 1.0.0 needs m >=1.0.0 needs m >1.0.0", 2);
        Check.want(other, "n *", 2);
        Check.due("best", other.best(-1), PackageKeeper.NONE);
    }

    private static void bestByReach() {
        PackageKeeper keeper = new PackageKeeper();
        // Without b is better than with it, whatever version c has then.
        Check.release(keeper, "a 1.0.0 needs c *", 0);
        Check.release(keeper, "c 2.0.0 needs b *", 1);
        Check.release(keeper, "c 1.0.0", 2);
        Check.release(keeper, "b 1.0.0", 3);
        Check.want(keeper, "a *", 1);
        Check.bestIs(keeper, 0, 2);
        Check.want(keeper, "b *", 2);
        Check.bestIs(keeper, 0, 3, 1);
        // A higher a counts before a set without b.
        Check.unwant(keeper, "b", 1);
        Check.release(keeper, "a 2.0.0 needs b *", 4);
        Check.bestIs(keeper, 4, 3);
        // Circles that no root leads to are never in.
        Check.release(keeper, "x 1.0.0 needs y *", 5);
        Check.release(keeper, "y 1.0.0 needs x *", 6);
        Check.bestIs(keeper, 4, 3);
        // Then b, which is in, leads to them.
        Check.release(keeper, "b 2.0.0 needs y *", 7);
        Check.bestIs(keeper, 4, 7, 5, 6);
    }

    /** Each release fits some of every other name, but only trying tells that no three fit together. */
    private static void bestOfAnOddRing() {
        PackageKeeper keeper = new PackageKeeper();
        Check.release(keeper, "a 1.0.0 needs b 2.0.0", 0);
        Check.release(keeper, "a 2.0.0 needs b 1.0.0", 1);
        Check.release(keeper, "b 1.0.0 needs c 2.0.0", 2);
        Check.release(keeper, "b 2.0.0 needs c 1.0.0", 3);
        Check.release(keeper, "c 1.0.0 needs a 2.0.0", 4);
        Check.release(keeper, "c 2.0.0 needs a 1.0.0", 5);
        Check.want(keeper, "a *", 1);
        Check.due("best(-1)", keeper.best(-1), PackageKeeper.NONE);
        Check.due("best(0)", keeper.best(0), PackageKeeper.NONE);
        Check.install(keeper, 0, -1, PackageKeeper.NONE);
        Check.release(keeper, "b 0.1.0 needs c 2.0.0 || 1.0.0", 6);
        Check.due("best(-1)", keeper.best(-1), PackageKeeper.NONE);
        Check.release(keeper, "a 0.1.0 needs b 0.1.0 || 3.0.0", 7);
        Check.due("best(-1)", keeper.best(-1), PackageKeeper.NONE);
        Check.release(keeper, "c 0.1.0 needs a <1.0.0 || >2.0.0", 8);
        Check.due("best(-1)", keeper.best(-1), PackageKeeper.NONE);
        Check.release(keeper, "b 3.0.0 needs c 0.1.0", 9);
        Check.bestIs(keeper, 7, 9, 8);
        Check.install(keeper, 0, -1, 3);
        Check.currentIs(keeper, 7, 0, 9, 0, 8, 0);
    }

    private static void bestOfMany() {
        PackageKeeper keeper = new PackageKeeper();
        String[] names = {"a", "b", "c", "d", "e", "f", "g", "h"};
        int number = 0;
        for (int v = 0; v < 4; v++) {
            for (int n = 0; n < 8; n++) {
                String next = n < 7 ? " needs " + names[n + 1] + " 1.0." + (3 - v) : "";
                Check.release(keeper, names[n] + " 1.0." + v + next, number++);
            }
        }
        Check.due("releases", keeper.count(0), 32);
        Check.want(keeper, "a *", 1);
        Check.bestIs(keeper, 24, 1, 26, 3, 28, 5, 30, 7);
        Check.want(keeper, "h 1.0.1", 2);
        Check.bestIs(keeper, 16, 9, 18, 11, 20, 13, 22, 15);
        Check.want(keeper, "d 1.0.3", 3);
        Check.due("best(-1)", keeper.best(-1), PackageKeeper.NONE);
        Check.install(keeper, 0, -1, PackageKeeper.NONE);
    }

    private static void currentOrder() {
        PackageKeeper keeper = new PackageKeeper();
        Check.due("current", keeper.current(0, -1), PackageKeeper.REFUSED);
        Check.due("current", keeper.current(0, 2), PackageKeeper.REFUSED);
        Check.due("current", keeper.current(-1, MOST), PackageKeeper.REFUSED);
        Check.due("current", keeper.current(0, 0), PackageKeeper.NONE);
        Check.release(keeper, "a 1.0.0 needs f *", 0);
        Check.release(keeper, "b 1.0.0", 1);
        Check.release(keeper, "c 1.0.0 needs g *", 2);
        Check.release(keeper, "d 1.0.0 needs e * needs b *", 3);
        Check.release(keeper, "e 1.0.0 needs c *", 4);
        Check.release(keeper, "f 1.0.0 needs f * needs b *", 5);
        Check.release(keeper, "g 1.0.0 needs e *", 6);
        Check.release(keeper, "h 1.0.0 needs a * needs d *", 7);
        Check.want(keeper, "h *", 1);
        Check.install(keeper, 0, -1, 8);
        // b is free; then c, e and g are a circle with the least name; d waits for it, a for f.
        Check.currentIs(keeper, 1, 0, 2, 1, 4, 1, 6, 1, 3, 2, 5, 3, 0, 4, 7, 5);
        Check.stepsAre(keeper, 1, 1, 2, 1, 4, 1, 6, 1, 3, 1, 5, 1, 0, 1, 7, 1);
        Check.due("current", keeper.current(-1, 0), PackageKeeper.NONE);
        Check.due("current", keeper.current(8, 1), PackageKeeper.NONE);
        Check.due("current", keeper.current(LEAST, 1), PackageKeeper.NONE);
        Check.due("current", keeper.current(MOST, 0), PackageKeeper.NONE);
        Check.due("current", keeper.current(0, LEAST), PackageKeeper.REFUSED);
        // What is wanted or dropped later changes nothing of it before the next install.
        Check.due("drop", keeper.drop(4), 7);
        Check.due("current", keeper.current(2, 0), 4);
        Check.install(keeper, 0, -1, PackageKeeper.NONE);
        Check.unwant(keeper, "h", 0);
        Check.install(keeper, 0, -1, 0);
        Check.stepsAre(keeper, 7, 0, 0, 0, 5, 0, 3, 0, 6, 0, 4, 0, 2, 0, 1, 0);
    }

    private static void steps() {
        PackageKeeper keeper = new PackageKeeper();
        Check.due("step", keeper.step(0, 0), PackageKeeper.NONE);
        Check.due("step", keeper.step(0, 1), PackageKeeper.NONE);
        Check.due("step", keeper.step(0, 2), PackageKeeper.REFUSED);
        Check.due("step", keeper.step(-1, -1), PackageKeeper.REFUSED);
        Check.release(keeper, "a 1.0.0 needs b *", 0);
        Check.release(keeper, "b 1.0.0 needs c *", 1);
        Check.release(keeper, "c 1.0.0", 2);
        Check.release(keeper, "d 1.0.0", 3);
        Check.want(keeper, "a *", 1);
        Check.want(keeper, "d *", 2);
        Check.install(keeper, 0, 3, PackageKeeper.CUT);
        Check.stepsAre(keeper);
        Check.install(keeper, 0, -1, 4);
        Check.stepsAre(keeper, 2, 1, 1, 1, 0, 1, 3, 1);
        Check.release(keeper, "a 2.0.0", 4);
        Check.release(keeper, "d 2.0.0 needs a *", 5);
        Check.install(keeper, 1, 0, PackageKeeper.CUT);
        Check.stepsAre(keeper, 2, 1, 1, 1, 0, 1, 3, 1);
        Check.install(keeper, 1, -1, 2);
        Check.stepsAre(keeper, 3, 0, 0, 0, 1, 0, 2, 0, 4, 1, 5, 1);
        Check.rollback(keeper, 1, PackageKeeper.CUT);
        Check.stepsAre(keeper, 3, 0, 0, 0, 1, 0, 2, 0, 4, 1, 5, 1);
        Check.rollback(keeper, -1, 4);
        Check.stepsAre(keeper, 5, 0, 4, 0, 2, 1, 1, 1, 0, 1, 3, 1);
        Check.install(keeper, 0, -1, 4);
        Check.stepsAre(keeper);
        Check.want(keeper, "d >1.0.0", 2);
        Check.want(keeper, "a <2.0.0", 2);
        Check.install(keeper, 0, -1, 4);
        Check.stepsAre(keeper, 3, 0, 5, 1);
        Check.due("step", keeper.step(-1, 0), PackageKeeper.NONE);
        Check.due("step", keeper.step(MOST, 1), PackageKeeper.NONE);
        Check.due("step", keeper.step(LEAST, 1), PackageKeeper.NONE);
        Check.due("step", keeper.step(0, MOST), PackageKeeper.REFUSED);
    }

    private static void owner() {
        PackageKeeper keeper = new PackageKeeper();
        String[] faults = {"", " ", "p q", "p_", "abcdefghijklmnopqrstu", "p\0", "*", "p:q"};
        for (String fault : faults) {
            Check.owner(keeper, fault, PackageKeeper.FAULT);
        }
        Check.owner(keeper, "p", PackageKeeper.NONE);
        Check.release(keeper, "a 1.0.0 owns p owns needs owns bin/A-1.x", 0);
        Check.release(keeper, "b 1.0.0 owns abcdefghijklmnopqrst owns abcdefgh", 1);
        Check.owner(keeper, "p", PackageKeeper.NONE);
        Check.want(keeper, "a *", 1);
        Check.want(keeper, "b *", 2);
        Check.owner(keeper, "p", PackageKeeper.NONE);
        Check.install(keeper, 0, -1, 2);
        Check.owner(keeper, " p ", 0);
        Check.owner(keeper, "needs", 0);
        Check.owner(keeper, "bin/A-1.x", 0);
        Check.owner(keeper, "bin/a-1.x", PackageKeeper.NONE);
        Check.owner(keeper, "abcdefghijklmnopqrst", 1);
        Check.owner(keeper, "abcdefghijklmnopqrs", PackageKeeper.NONE);
        Check.owner(keeper, "abcdefghijklmnopqrsu", PackageKeeper.NONE);
        Check.owner(keeper, "abcdefgh", 1);
        // Of the current generation, not of the index.
        Check.due("drop(1)", keeper.drop(1), 1);
        Check.owner(keeper, "abcdefgh", 1);
        Check.unwant(keeper, "b", 1);
        Check.owner(keeper, "abcdefgh", 1);
        Check.install(keeper, 0, -1, 1);
        Check.owner(keeper, "abcdefgh", PackageKeeper.NONE);
        Check.rollback(keeper, -1, 2);
        Check.owner(keeper, "abcdefgh", 1);
    }

    private static void comparePrecedence() {
        String[] rising = {
            "0.0.0-0", "0.0.0", "0.0.1", "0.1.0", "0.9.9", "0.10.0", "1.0.0-0", "1.0.0-2", "1.0.0-10",
            "1.0.0-99999999", "1.0.0--", "1.0.0--1", "1.0.0--1.0", "1.0.0-0a", "1.0.0-1-", "1.0.0-1a", "1.0.0-A",
            "1.0.0-Z", "1.0.0-a", "1.0.0-a.0", "1.0.0-a.0.0", "1.0.0-a.0.0.0", "1.0.0-a.0.0.1", "1.0.0-a.2",
            "1.0.0-a.10", "1.0.0-a.a", "1.0.0-a-", "1.0.0-aa", "1.0.0-abcdefgg", "1.0.0-abcdefgh", "1.0.0-b",
            "1.0.0-zzzzzzzz", "1.0.0-zzzzzzzz.zzzzzzzz.zzzzzzzz.zzzzzzzz", "1.0.0", "1.0.999999999", "1.999999999.0",
            "2.0.0-0", "10.0.0", "999999999.0.0", "999999999.999999999.999999999",
        };
        for (int i = 0; i < rising.length; i++) {
            PackageKeeper keeper = new PackageKeeper();
            for (int j = 0; j < rising.length; j++) {
                Check.compare(keeper, rising[i] + " " + rising[j], Integer.compare(i, j));
            }
        }
    }

    private static void compareFaults() {
        PackageKeeper keeper = new PackageKeeper();
        Check.compare(keeper, "", PackageKeeper.FAULT);
        Check.compare(keeper, "1.0.0", PackageKeeper.FAULT);
        Check.compare(keeper, "1.0.0 1.0.0 1.0.0", PackageKeeper.FAULT);
        Check.compare(keeper, "1.0.0 1.0.0 x", PackageKeeper.FAULT);
        String[] faults = {
            "1", "1.0", "1.0.", ".1.0", "1..0", "1.0.0.", "1.0.0.0", "1.0.0-", "01.0.0", "1.00.0", "1.0.01",
            "1000000000.0.0", "0.1000000000.0", "0.0.1000000000", "0000000000.0.0", "1.0.0a", "a.0.0", "1.0.x",
            "v1.0.0", "=1.0.0", "+1.0.0", "-1.0.0", "1.0.-1", "1.0.0+b", "1.0.0-a+b", "1.0.0-.a", "1.0.0-a.",
            "1.0.0-a..b", "1.0.0-01", "1.0.0-00", "1.0.0-a.01", "1.0.0-123456789", "1.0.0-abcdefghi",
            "1.0.0-a.b.c.d.e", "1.0.0-a.b.c.d.", "1.0.0-a_b", "1.0.0-a/b", "*", "||", "1,0,0",
        };
        for (String fault : faults) {
            PackageKeeper other = new PackageKeeper();
            Check.compare(other, fault + " 1.0.0", PackageKeeper.FAULT);
            Check.compare(other, "1.0.0 " + fault, PackageKeeper.FAULT);
            Check.match(other, fault + " *", PackageKeeper.FAULT);
            if (!fault.equals("=1.0.0") && !fault.equals("*")) {
                Check.match(other, "1.0.0 " + fault, PackageKeeper.FAULT);
                Check.match(other, "1.0.0 ^" + fault, PackageKeeper.FAULT);
            }
            Check.release(other, "a " + fault, PackageKeeper.FAULT);
        }
    }

    private static void matches(String range, String inside, String outside) {
        for (String version : inside.split(" ")) {
            if (!version.isEmpty()) {
                Check.match(new PackageKeeper(), version + " " + range, 1);
            }
        }
        for (String version : outside.split(" ")) {
            if (!version.isEmpty()) {
                Check.match(new PackageKeeper(), version + " " + range, 0);
            }
        }
    }

    private static void matchTests() {
        matches("*", "0.0.0-0 1.0.0 999999999.999999999.999999999", "");
        matches("1.2.3", "1.2.3", "1.2.3-a 1.2.4 1.2.2");
        matches("=1.2.3-a", "1.2.3-a", "1.2.3 1.2.3-A 1.2.3-a.0");
        matches("<1.2.3", "1.2.2 1.2.3-a 0.9.9", "1.2.3 1.2.4-a");
        matches("<=1.2.3", "1.2.2 1.2.3-a 1.2.3", "1.2.4-0 1.2.4");
        matches(">1.2.3", "1.2.4-0 1.2.4 9.0.0", "1.2.3 1.2.3-z 1.2.2");
        matches(">=1.2.3", "1.2.3 1.2.4-0", "1.2.3-z 1.2.2");
        matches("^1.2.3", "1.2.3 1.2.4-0 1.9.9 2.0.0-z", "1.2.2 1.2.3-z 2.0.0 3.0.0");
        matches("^1.2.3-b", "1.2.3-b 1.2.3 2.0.0-0", "1.2.3-a 2.0.0");
        matches("^1.0.0", "1.0.0 1.9.0", "0.9.9 2.0.0");
        matches("^0.2.3", "0.2.3 0.2.9 0.3.0-a", "0.2.2 0.3.0 1.0.0");
        matches("^0.2.0", "0.2.0 0.2.9", "0.1.9 0.3.0");
        matches("^0.0.3", "0.0.3 0.0.4-a", "0.0.2 0.0.4 0.1.0");
        matches("^0.0.0", "0.0.0 0.0.1-0", "0.0.0-z 0.0.1");
        matches("^0.0.0-a", "0.0.0-a 0.0.0 0.0.1-0", "0.0.0-0 0.0.1");
        matches("^999999999.0.0", "999999999.999999999.999999999", "999999998.0.0");
        matches("^0.999999999.0", "0.999999999.999999999", "1.0.0-0 0.999999998.0");
        matches("~1.2.3", "1.2.3 1.2.9 1.3.0-0", "1.2.2 1.3.0 2.0.0");
        matches("~0.0.3", "0.0.3 0.0.9 0.1.0-z", "0.0.2 0.1.0");
        matches("~1.2.3-b", "1.2.3-b 1.2.3", "1.2.3-a 1.3.0");
        matches("~1.999999999.0", "1.999999999.5", "2.0.0 1.999999998.0");
    }

    private static void matchRanges() {
        matches(">=1.0.0 <2.0.0", "1.0.0 1.9.9 2.0.0-a", "0.9.9 2.0.0");
        matches("1.0.0 || 2.0.0", "1.0.0 2.0.0", "1.5.0 3.0.0");
        matches("<1.0.0 || >2.0.0 <3.0.0 || 5.0.0 || ^7.0.0 ~7.1.0 <7.1.5 *", "0.1.0 2.5.0 5.0.0 7.1.3",
                "1.0.0 2.0.0 3.0.0 7.0.0 7.1.5 8.0.0");
        matches("1.0.0 2.0.0", "", "1.0.0 2.0.0 1.5.0");
        matches("* * * * || * * * * || * * * * || * * * *", "1.0.0", "");
        matches(">2.0.0 <1.0.0 || 1.5.0", "1.5.0", "0.5.0 2.5.0");
    }

    private static void matchFaults() {
        PackageKeeper keeper = new PackageKeeper();
        String[] ranges = {
            "", "||", "* ||", "|| *", "* || || *", "* * * * *", "* || * || * || * || *", "1.0.0||2.0.0", "| *",
            "* | *", "* ||| *", "<", "< 1.0.0", "==1.0.0", "=>1.0.0", "=<1.0.0", "<<1.0.0", ">==1.0.0", "^=1.0.0",
            "~=1.0.0", "~>1.0.0", "^^1.0.0", "=*", "**", "^*", "!1.0.0", "1.0.x", "1.0", ">=1.0", ">=", "^", "~",
            "* needs", "* needs b *", "* owns p", "needs", "a", "<=01.0.0", "^1.0.0-", "* * * * * || *",
            "* || * * * * *",
        };
        for (String range : ranges) {
            Check.match(keeper, "1.0.0 " + range, PackageKeeper.FAULT);
            keeper = new PackageKeeper();
            Check.want(keeper, "a " + range, PackageKeeper.FAULT);
            if (range.indexOf('s') < 0) {
                Check.release(keeper, "a 1.0.0 needs b " + range, PackageKeeper.FAULT);
                Check.release(keeper, "a 1.0.0 breaks b " + range + " owns p", PackageKeeper.FAULT);
            }
        }
        Check.match(keeper, "", PackageKeeper.FAULT);
        Check.match(keeper, "* 1.0.0", PackageKeeper.FAULT);
        Check.match(keeper, "*", PackageKeeper.FAULT);
        Check.match(keeper, "a 1.0.0", PackageKeeper.FAULT);
    }

    private static void counts() {
        PackageKeeper keeper = new PackageKeeper();
        Check.release(keeper, "a 1.0.0", 0);
        Check.release(keeper, "b 1.0.0", 1);
        Check.release(keeper, "c 1.0.0", 2);
        Check.want(keeper, "a *", 1);
        Check.want(keeper, "b *", 2);
        Check.install(keeper, 0, -1, 2);
        Check.tape(keeper, "1.0.0");
        Check.counts(keeper, 3, 2, 2, 2, 1, 5);
        Check.rollback(keeper, -1, 0);
        Check.counts(keeper, 3, 2, 0, 1, 1, 5);
        Check.install(keeper, 0, -1, 2);
        Check.counts(keeper, 3, 2, 2, 2, 2, 5);
        int[] others = {-1, 6, LEAST, MOST};
        for (int what : others) {
            Check.due("count(" + what + ")", keeper.count(what), PackageKeeper.REFUSED);
        }
    }
}
