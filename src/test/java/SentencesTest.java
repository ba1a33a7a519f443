import java.util.function.ToIntFunction;

/** What the document says that no other test by itself would notice if it were broken. */
public final class SentencesTest {
    private static final int CUT = PackageKeeper.CUT;
    private static final int FAULT = PackageKeeper.FAULT;
    private static final int NONE = PackageKeeper.NONE;
    private static final int REFUSED = PackageKeeper.REFUSED;
    private static final int THERE = PackageKeeper.THERE;

    private SentencesTest() {
    }

    public static void main(String[] args) {
        callsWithoutTheTapeToTheLast();
        callsThatReadTheTapeToTheLast();
        brokenNamesAreNotReached();
        earlierGenerationsKeepWhatIsDropped();
        pathsAreNoTrees();
        faultsToTheLastByte();
        cutTapeIsAsAShortOne();
        everyChoiceAndTestCounts();
        Check.finish();
    }

    private static Probe installed() {
        Probe probe = Probe.withReleases("a 1.0.0 needs b * owns p", "b 1.0.0").wanting("a *");
        probe.install(0, -1, 2);
        return probe;
    }

    private static void toTheLast(String what, int due, ToIntFunction<Probe> call) {
        Probe probe = installed();
        while (probe.calls() < Probe.MOST_CALLS) {
            int number = probe.calls() + 1;
            Check.due(what + " as call " + number, call.applyAsInt(probe), due);
        }
    }

    /** "An object is used for at most 512 calls": whichever call that is, all of them count. */
    private static void callsWithoutTheTapeToTheLast() {
        toTheLast("end(0)", 0, probe -> probe.end(0));
        toTheLast("end(1)", REFUSED, probe -> probe.end(1));
        toTheLast("drop(2)", NONE, probe -> probe.drop(2));
        toTheLast("install(1, -1)", 2, probe -> probe.install(1, -1));
        toTheLast("install(0, 0)", CUT, probe -> probe.install(0, 0));
        toTheLast("install(2, -1)", REFUSED, probe -> probe.install(2, -1));
        toTheLast("rollback(0)", CUT, probe -> probe.rollback(0));
        toTheLast("best(-1)", 2, probe -> probe.best(-1));
        toTheLast("best(1)", 1, probe -> probe.best(1));
        toTheLast("best(2)", NONE, probe -> probe.best(2));
        toTheLast("current(1, 0)", 0, probe -> probe.current(1, 0));
        toTheLast("current(1, 1)", 1, probe -> probe.current(1, 1));
        toTheLast("current(2, 0)", NONE, probe -> probe.current(2, 0));
        toTheLast("step(0, 0)", 1, probe -> probe.step(0, 0));
        toTheLast("step(0, 1)", 1, probe -> probe.step(0, 1));
        toTheLast("step(0, 2)", REFUSED, probe -> probe.step(0, 2));
        int[] counts = {2, 1, 2, 2, 1, 0, REFUSED};
        for (int what = 0; what < counts.length; what++) {
            int asked = what;
            toTheLast("count(" + what + ")", counts[what], probe -> probe.count(asked));
        }
    }

    private static void toTheLastOf(String text, int due, ToIntFunction<Probe> call) {
        Probe probe = installed();
        String padded = text + " ".repeat(20 - text.length());
        while (probe.calls() < Probe.MOST_CALLS - 1) {
            Check.due("feed of \"" + text + "\"", probe.feedText(padded, 0), 20);
            int number = probe.calls() + 1;
            Check.due("\"" + text + "\" as call " + number, call.applyAsInt(probe), due);
        }
    }

    private static void callsThatReadTheTapeToTheLast() {
        toTheLastOf("a 1.0.0", THERE, Probe::release);
        toTheLastOf("a 1.0", FAULT, Probe::release);
        toTheLastOf("a >=1.0.0", 1, Probe::want);
        toTheLastOf("a", FAULT, Probe::want);
        toTheLastOf("b", NONE, Probe::unwant);
        toTheLastOf("a *", FAULT, Probe::unwant);
        toTheLastOf("p", 0, Probe::owner);
        toTheLastOf("q", NONE, Probe::owner);
        toTheLastOf("1.0.0 1.0.1", -1, Probe::compare);
        toTheLastOf("1.0.1 1.0.0", 1, Probe::compare);
        toTheLastOf("1.0.0 >0.9.0 || *", 1, Probe::match);
        toTheLastOf("1.0.0 1.0.1", 0, Probe::match);
    }

    /** "one that is reached needs its name": one that breaks it in another range does not reach it. */
    private static void brokenNamesAreNotReached() {
        Probe probe = Probe.withReleases("a 1.0.0 breaks b >1.0.0", "b 1.0.0").wanting("a *", "b *");
        probe.install(0, -1, 2);
        probe.unwant("b", 1);
        probe.bestIs(0);
        probe.install(0, -1, 1);
        probe.currentIs(0, 0);
        probe.stepsAre(1, 0);
    }

    /** "each is a set of releases, as they were when it was made": the earlier ones too, whatever is dropped since. */
    private static void earlierGenerationsKeepWhatIsDropped() {
        Probe probe = Probe.withReleases("a 1.0.0 owns p", "a 2.0.0 owns q", "a 3.0.0 owns r");
        for (int n = 1; n <= 3; n++) {
            probe.want("a " + n + ".0.0", 1);
            probe.install(0, -1, 1);
        }
        probe.drop(0, 2);
        probe.drop(1, 1);
        probe.release("a 1.0.0", 3);
        probe.count(3, 4);
        probe.rollback(-1, 1);
        probe.currentIs(1, 0);
        probe.stepsAre(2, 0, 1, 1);
        probe.owner("q", 1);
        probe.rollback(-1, 1);
        probe.currentIs(0, 0);
        probe.stepsAre(1, 0, 0, 1);
        probe.owner("p", 0);
        // Taken back, they are in the generation alone, not in the index.
        probe.count(0, 2);
        probe.drop(0, NONE);
        probe.want("a <3.0.0", 1);
        probe.bestIs(3);
    }

    /** "that owns the TAPE, a PATH"; "own the same path": what is below or above a path is another one. */
    private static void pathsAreNoTrees() {
        Probe probe = Probe.withReleases("a 1.0.0 owns d owns e/f owns g/", "b 1.0.0 owns d/x owns e owns g owns d/")
                .wanting("a *", "b *");
        probe.install(0, -1, 2);
        String[] paths = {"d", "e/f", "g/", "d/x", "e", "g", "d/", "d/x/y", "e/", "e/f/", "/d", "/e", "D", "d.", "dx"};
        int[] owners = {0, 0, 0, 1, 1, 1, 1, NONE, NONE, NONE, NONE, NONE, NONE, NONE, NONE};
        for (int i = 0; i < paths.length; i++) {
            probe.owner(paths[i], owners[i]);
        }
    }

    private static void faults(ToIntFunction<Probe> call, String... texts) {
        for (String text : texts) {
            String full = " ".repeat(400 - text.length()) + text;
            Check.due("full tape with \"" + text + "\"", call.applyAsInt(new Probe().put(full)), FAULT);
            Check.due("tape with \"" + text + "\"", call.applyAsInt(new Probe().put(text)), FAULT);
        }
    }

    /** "FAULT if it is not that": also if the text stops short at the 400th byte, behind which there is nothing. */
    private static void faultsToTheLastByte() {
        faults(Probe::release, "a", "a 1", "a 1.0.", "a 1.0.0-", "a 1.0.0 needs", "a 1.0.0 needs b",
                "a 1.0.0 needs b <", "a 1.0.0 breaks b >", "a 1.0.0 breaks b * ||", "a 1.0.0 owns");
        faults(Probe::want, "a", "a <", "a >", "a =", "a ^", "a ~", "a <=", "a >=", "a * ||", "a 1.0.", "a 1.0.0-a.");
        faults(Probe::unwant, "A", "needs", "a b", "a <");
        faults(Probe::owner, "_", "p q", "p <");
        faults(Probe::compare, "1.0.0", "1.0.0 1", "1.0.0 1.0.", "1.0.0 1.0.0-", "1.0.0 <");
        faults(Probe::match, "1.0.0", "1.0.0 <", "1.0.0 >", "1.0.0 =", "1.0.0 ^", "1.0.0 ~", "1.0.0 <=", "1.0.0 >=",
                "1.0.0 * ||", "1.0.0 * |", "1.0.0 <1.", "1.0.0 <1.0.0-");
    }

    /** "The TAPE is cut to its first n bytes": none of the bytes behind them is read, whatever they were. */
    private static void cutTapeIsAsAShortOne() {
        cutEverywhere("aa 1.10.10-aa.10 needs bb >=1.0.0 || <=2.0.0-b breaks cc ^1.0.0 * owns needs", Probe::release);
        cutEverywhere("aa >=10.10.10-aa.bb <=20.0.0 * || ~10.10.10 || *", Probe::want);
        cutEverywhere("needsneeds", Probe::unwant);
        cutEverywhere("usr/lib/a-1.0/b.c_", Probe::owner);
        cutEverywhere("10.10.10-aa.10.-b  10.10.10-aa.10.-c", Probe::compare);
        cutEverywhere("10.10.10 >=10.10.10 <=10.10.11-a || >10.10.9 || =10.10.10 * ", Probe::match);
    }

    private static void cutEverywhere(String text, ToIntFunction<Probe> call) {
        for (int n = 0; n <= text.length(); n++) {
            Probe cut = new Probe().put(text);
            Check.due("end", cut.end(n), n);
            int due = call.applyAsInt(new Probe().put(text.substring(0, n)));
            Check.due("\"" + text + "\" cut to " + n, call.applyAsInt(cut), due);
        }
    }

    /** "A version is IN a range if all tests of one choice hold": in the ranges of roots, needs and breaks too. */
    private static void everyChoiceAndTestCounts() {
        String choices = "1.0.0 || 2.0.0 || 3.0.0 || 4.0.0";
        for (int major = 0; major <= 5; major++) {
            isInAll(major + ".0.0", choices, major >= 1 && major <= 4);
        }
        // What a test of one choice keeps out is in the range if another choice has it.
        String tests = ">0.1.0 <0.9.0 ^0.5.0-a <=0.5.5";
        String[] outside = {"0.1.0", "0.9.0", "0.4.9", "0.5.6", "0.5.0-0"};
        for (String version : outside) {
            isInAll(version, tests, false);
            isInAll(version, tests + " || " + version, true);
            isInAll(version, version + " || " + tests, true);
        }
        isInAll("0.5.0-a", tests, true);
        isInAll("0.5.5", tests, true);
        isInAll("0.5.5", "9.0.0 || " + tests + " || 8.0.0", true);
        // One test that does not hold is enough, whichever of the four it is.
        isInAll("1.0.1", ">=1.0.1 * * *", true);
        isInAll("1.0.1", ">1.0.1 * * *", false);
        isInAll("1.0.1", "* >1.0.1 * *", false);
        isInAll("1.0.1", "* * >1.0.1 *", false);
        isInAll("1.0.1", "* * * >1.0.1", false);
    }

    private static void isInAll(String version, String range, boolean isIn) {
        String other = "b " + version;
        new Probe().match(version + " " + range, isIn ? 1 : 0);
        Probe.withReleases(other).wanting("b " + range).best(-1, isIn ? 1 : NONE);
        Probe.withReleases("a 1.0.0 needs b " + range, other).wanting("a *").best(-1, isIn ? 2 : NONE);
        Probe.withReleases("a 1.0.0 breaks b " + range, other).wanting("a *", "b *").best(-1, isIn ? NONE : 2);
    }
}
