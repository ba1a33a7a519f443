/** The boundaries of RANGE, CHOICE and TESTS, and of promise 15 (match). */
public final class RangeBoundariesTest {
    private static final int FAULT = PackageKeeper.FAULT;
    /** The highest PRE: of a version with it none is between it and the one without. */
    private static final String TOP = "-zzzzzzzz.zzzzzzzz.zzzzzzzz.zzzzzzzz";
    private static final String HIGHEST = "999999999.999999999.999999999";

    private RangeBoundariesTest() {
    }

    public static void main(String[] args) {
        numberOfChoices();
        numberOfTests();
        wordBetweenChoices();
        signsOfTests();
        star();
        sameAs();
        belowAndAbove();
        caretOfAMajor();
        caretOfMajorNought();
        caretOfBothNought();
        tilde();
        caretAndTildeAtTheHighest();
        oneVersionApart();
        allTestsOfOneChoice();
        longestRange();
        versionAndRange();
        Check.finish();
    }

    /** A range wherever the document has one. */
    private static void isRange(String range) {
        int answer = new Probe().put("1.0.0 " + range).match();
        Check.due("match of \"" + range + "\" is 0 or 1", answer == 0 || answer == 1 ? 1 : 0, 1);
        Probe probe = new Probe();
        probe.want("a " + range, 1);
        probe.release("a 1.0.0 needs b " + range, 0);
        probe.release("a 1.0.1 breaks b " + range, 1);
        probe.release("a 1.0.2 needs b " + range + " needs c " + range, 2);
        probe.release("a 1.0.3 breaks b " + range + " owns p", 3);
    }

    private static void isNoRange(String range) {
        new Probe().match("1.0.0 " + range, FAULT);
        Probe probe = new Probe();
        probe.want("a " + range, FAULT);
        probe.release("a 1.0.0 needs b " + range, FAULT);
        probe.release("a 1.0.0 breaks b " + range, FAULT);
        probe.release("a 1.0.0 needs b " + range + " needs c *", FAULT);
        probe.release("a 1.0.0 breaks b " + range + " owns p", FAULT);
        probe.count(0, 0);
        probe.count(1, 0);
    }

    private static void inside(String range, String... versions) {
        for (String version : versions) {
            new Probe().match(version + " " + range, 1);
        }
    }

    private static void outside(String range, String... versions) {
        for (String version : versions) {
            new Probe().match(version + " " + range, 0);
        }
    }

    /** "RANGE: 1 to 4 CHOICES". */
    private static void numberOfChoices() {
        isNoRange("");
        isRange("*");
        isRange("* || *");
        isRange("* || * || *");
        isRange("* || * || * || *");
        isNoRange("* || * || * || * || *");
        isNoRange("* || * || * || * || * || *");
        isRange("1.0.0 || >2.0.0 <3.0.0 || 5.0.0 || ^7.0.0");
        isNoRange("1.0.0 || >2.0.0 <3.0.0 || 5.0.0 || ^7.0.0 || ~9.0.0");
        inside("1.0.0 || 2.0.0 || 3.0.0 || 4.0.0", "1.0.0", "2.0.0", "3.0.0", "4.0.0");
        outside("1.0.0 || 2.0.0 || 3.0.0 || 4.0.0", "0.0.0", "5.0.0");
    }

    /** "CHOICE: 1 to 4 TESTS": in the first choice, in one between and in the last. */
    private static void numberOfTests() {
        isNoRange("||");
        isNoRange("|| *");
        isNoRange("* ||");
        isNoRange("* || || *");
        isNoRange("* || * || * ||");
        isNoRange("* || * || * || * ||");
        String[] before = {"", "", "", "* || ", "* || ", "* * * * || ", "* || * || * || "};
        String[] behind = {"", " || *", " || * * * *", "", " || *", " || * * * *", ""};
        for (int i = 0; i < before.length; i++) {
            isRange(before[i] + "*" + behind[i]);
            isRange(before[i] + "* * *" + behind[i]);
            isRange(before[i] + "* * * *" + behind[i]);
            isNoRange(before[i] + "* * * * *" + behind[i]);
            isNoRange(before[i] + "* * * * * *" + behind[i]);
        }
        isRange("* * * * || * * * * || * * * * || * * * *");
        isNoRange("* * * * || * * * * || * * * * || * * * * *");
        isNoRange("* * * * || * * * * || * * * * || * * * * ||");
        isNoRange("* * * * || * * * * || * * * * || * * * * || *");
        isRange(">1.0.0 <5.0.0 ^2.0.0 ~2.1.0");
        isNoRange(">1.0.0 <5.0.0 ^2.0.0 ~2.1.0 2.1.5");
    }

    /** "with the word || between". */
    private static void wordBetweenChoices() {
        isNoRange("1.0.0|| 2.0.0");
        isNoRange("1.0.0 ||2.0.0");
        isNoRange("1.0.0||2.0.0");
        isNoRange("1.0.0 | 2.0.0");
        isNoRange("1.0.0 | | 2.0.0");
        isNoRange("1.0.0 ||| 2.0.0");
        isNoRange("1.0.0 |||| 2.0.0");
        isNoRange("1.0.0 or 2.0.0");
        isNoRange("|");
        isNoRange("*||*");
    }

    /** "words: * (all), or a VERSION v with = or nothing before it, or <, <=, >, >=, ^, ~". */
    private static void signsOfTests() {
        isRange("1.0.0");
        isRange("1.0.0-a.b.c.d");
        String[] signs = {"=", "<", "<=", ">", ">=", "^", "~"};
        for (String sign : signs) {
            isRange(sign + "1.0.0");
            isRange(sign + "1.0.0-a.b.c.d");
            isNoRange(sign + " 1.0.0");
            isNoRange(sign + "1.0");
            isNoRange(sign + "a");
            isNoRange(sign + "1.0.0" + sign);
        }
        String[] others = {"==", "=<", "=>", "<<", ">>", "<>", "><", "<==", ">==", "^=", "~=", "=^", "=~", "^^", "~~",
            "^~", "~>", "<^", "!", "!=", "-", "+", "v", "*", "**", "?", "@", ";", "]", "_", "}", "\177", "\0"};
        for (String other : others) {
            isNoRange(other + "1.0.0");
        }
        String[] noTests = {"=", "<", "<=", ">", ">=", "^", "~", "=*", "^*", "<*", "**", "*.*.*", "1.*.*", "1.0.*", "x",
            "1.x.x", "a", "1", "1.0", "(", "1.0.0,2.0.0", "1.0.0-2.0.0+b"};
        for (String other : noTests) {
            isNoRange(other);
        }
        for (int value = 0; value < 256; value++) {
            char c = (char) value;
            boolean isGood = value == ' ' || "=<>^~".indexOf(c) >= 0 || c >= '1' && c <= '9';
            int answer = new Probe().put("1.0.0 " + c + "1.0.0").match();
            Check.due("match of 1.0.0 and byte " + value, answer == FAULT ? 0 : 1, isGood ? 1 : 0);
        }
    }

    /** "* (all)". */
    private static void star() {
        inside("*", "0.0.0-0", "0.0.0", "1.0.0-a", HIGHEST + "-0", HIGHEST);
    }

    private static void sameAs() {
        String[] signs = {"", "="};
        for (String sign : signs) {
            inside(sign + "1.2.3", "1.2.3");
            outside(sign + "1.2.3", "1.2.3" + TOP, "1.2.4-0", "1.2.2", "1.2.4", "1.3.3", "2.2.3");
            inside(sign + "1.2.3-b.1", "1.2.3-b.1");
            outside(sign + "1.2.3-b.1", "1.2.3-b.0", "1.2.3-b.1.0", "1.2.3-b.2", "1.2.3-b", "1.2.3-B.1", "1.2.3");
        }
        inside("0.0.0-0", "0.0.0-0");
        outside("0.0.0-0", "0.0.0", "0.0.0-0.0");
        inside(HIGHEST, HIGHEST);
        outside(HIGHEST, HIGHEST + TOP, "999999999.999999999.999999998");
    }

    private static void belowAndAbove() {
        String[] versions = {"1.2.3", "1.2.3-b.1", "0.0.0", HIGHEST, "0.0.0-0.0"};
        String[] nextBelow = {"1.2.3" + TOP, "1.2.3-b.0.z", "0.0.0" + TOP, HIGHEST + TOP, "0.0.0-0"};
        String[] nextAbove = {"1.2.4-0", "1.2.3-b.1.0", "0.0.1-0", null, "0.0.0-0.0.0"};
        for (int i = 0; i < versions.length; i++) {
            inside("<" + versions[i], nextBelow[i], "0.0.0-0");
            outside("<" + versions[i], versions[i], HIGHEST);
            inside("<=" + versions[i], nextBelow[i], versions[i], "0.0.0-0");
            outside(">" + versions[i], nextBelow[i], versions[i], "0.0.0-0");
            inside(">=" + versions[i], versions[i], HIGHEST);
            outside(">=" + versions[i], nextBelow[i], "0.0.0-0");
            if (nextAbove[i] != null) {
                outside("<" + versions[i], nextAbove[i]);
                outside("<=" + versions[i], nextAbove[i], HIGHEST);
                inside(">" + versions[i], nextAbove[i], HIGHEST);
                inside(">=" + versions[i], nextAbove[i]);
            }
        }
        outside("<0.0.0-0", "0.0.0-0", "0.0.0", HIGHEST);
        inside("<=0.0.0-0", "0.0.0-0");
        outside(">" + HIGHEST, HIGHEST, "0.0.0-0");
        inside(">=" + HIGHEST, HIGHEST);
    }

    /** "^: at or above v and below the version (without PRE) of v's major + 1, 0, 0". */
    private static void caretOfAMajor() {
        inside("^1.2.3", "1.2.3", "1.2.4-0", "1.3.0", "1.999999999.999999999", "2.0.0-0", "2.0.0" + TOP);
        outside("^1.2.3", "1.2.3" + TOP, "1.2.2", "1.1.9", "0.2.3", "2.0.0", "2.0.1-0", "2.2.3", "3.0.0");
        inside("^1.2.3-b.1", "1.2.3-b.1", "1.2.3-b.1.0", "1.2.3", "2.0.0" + TOP);
        outside("^1.2.3-b.1", "1.2.3-b.0", "1.2.3-b", "2.0.0");
        inside("^1.0.0", "1.0.0", "1.0.1", "1.1.0", "2.0.0" + TOP);
        outside("^1.0.0", "1.0.0" + TOP, "0.999999999.999999999", "2.0.0");
        inside("^1.0.0-0", "1.0.0-0", "1.0.0", "2.0.0" + TOP);
        outside("^1.0.0-0", "0.999999999.999999999", "2.0.0");
        inside("^9.0.5", "9.0.5", "9.1.0", "10.0.0" + TOP);
        outside("^9.0.5", "9.0.4", "10.0.0", "9.0.5" + TOP);
    }

    /** "or, for major 0, of 0, minor + 1, 0". */
    private static void caretOfMajorNought() {
        inside("^0.1.0", "0.1.0", "0.1.1", "0.2.0" + TOP);
        outside("^0.1.0", "0.1.0" + TOP, "0.0.999999999", "0.2.0", "0.2.1", "1.0.0-0", "1.0.0");
        inside("^0.2.3", "0.2.3", "0.2.999999999", "0.3.0-0", "0.3.0" + TOP);
        outside("^0.2.3", "0.2.3" + TOP, "0.2.2", "0.3.0", "1.0.0-0", "1.0.0", "1.2.3");
        inside("^0.2.3-b", "0.2.3-b", "0.2.3", "0.3.0" + TOP);
        outside("^0.2.3-b", "0.2.3-a", "0.3.0");
        inside("^0.9.0", "0.9.0", "0.10.0" + TOP);
        outside("^0.9.0", "0.10.0");
    }

    /** "or, for both 0, of 0, 0, patch + 1". */
    private static void caretOfBothNought() {
        inside("^0.0.0", "0.0.0", "0.0.1-0", "0.0.1" + TOP);
        outside("^0.0.0", "0.0.0" + TOP, "0.0.1", "0.0.2", "0.1.0-0", "1.0.0-0");
        inside("^0.0.1", "0.0.1", "0.0.2" + TOP);
        outside("^0.0.1", "0.0.1" + TOP, "0.0.0", "0.0.2", "0.1.0-0", "1.0.0-0");
        inside("^0.0.9-b", "0.0.9-b", "0.0.9", "0.0.10" + TOP);
        outside("^0.0.9-b", "0.0.9-a", "0.0.8", "0.0.10", "0.1.0-0");
        inside("^0.0.0-0", "0.0.0-0", "0.0.0", "0.0.1" + TOP);
        outside("^0.0.0-0", "0.0.1");
    }

    /** "~: at or above v and below that of v's major, minor + 1, 0". */
    private static void tilde() {
        inside("~1.2.3", "1.2.3", "1.2.4-0", "1.2.999999999", "1.3.0-0", "1.3.0" + TOP);
        outside("~1.2.3", "1.2.3" + TOP, "1.2.2", "1.3.0", "1.3.1-0", "1.4.0", "2.0.0-0", "2.2.3", "0.2.3");
        inside("~1.2.3-b.1", "1.2.3-b.1", "1.2.3-b.1.0", "1.2.3", "1.3.0" + TOP);
        outside("~1.2.3-b.1", "1.2.3-b.0", "1.2.3-b", "1.3.0");
        inside("~1.0.0", "1.0.0", "1.0.1", "1.1.0" + TOP);
        outside("~1.0.0", "1.0.0" + TOP, "1.1.0", "2.0.0-0");
        inside("~0.1.2", "0.1.2", "0.2.0" + TOP);
        outside("~0.1.2", "0.1.1", "0.2.0", "1.0.0-0");
        inside("~0.0.0", "0.0.0", "0.0.1", "0.0.999999999", "0.1.0" + TOP);
        outside("~0.0.0", "0.0.0" + TOP, "0.1.0", "1.0.0-0");
        inside("~0.0.3", "0.0.3", "0.0.4", "0.1.0" + TOP);
        outside("~0.0.3", "0.0.2", "0.0.3" + TOP, "0.1.0");
        inside("~0.9.0", "0.10.0" + TOP);
        outside("~0.9.0", "0.10.0");
    }

    /** What is one above the highest number is no version that a text can say, but bounds the test all the same. */
    private static void caretAndTildeAtTheHighest() {
        inside("^999999999.0.0", "999999999.0.0", HIGHEST);
        outside("^999999999.0.0", "999999999.0.0" + TOP, "999999998.999999999.999999999");
        inside("^999999998.0.0", "999999998.0.0", "999999999.0.0" + TOP);
        outside("^999999998.0.0", "999999999.0.0", HIGHEST);
        inside("^" + HIGHEST, HIGHEST);
        outside("^" + HIGHEST, HIGHEST + TOP);
        inside("^0.999999999.0", "0.999999999.0", "0.999999999.999999999");
        outside("^0.999999999.0", "0.999999998.0", "1.0.0-0", "1.0.0");
        inside("^0.999999998.0", "0.999999999.0" + TOP);
        outside("^0.999999998.0", "0.999999999.0");
        inside("^0.0.999999999", "0.0.999999999");
        outside("^0.0.999999999", "0.0.999999998", "0.0.999999999" + TOP, "0.1.0-0", "0.1.0");
        inside("^0.0.999999998", "0.0.999999998", "0.0.999999999" + TOP);
        outside("^0.0.999999998", "0.0.999999999");
        inside("~1.999999999.0", "1.999999999.0", "1.999999999.999999999");
        outside("~1.999999999.0", "1.999999998.0", "2.0.0-0", "2.0.0");
        inside("~1.999999998.0", "1.999999999.0" + TOP);
        outside("~1.999999998.0", "1.999999999.0");
        inside("~" + HIGHEST, HIGHEST);
        outside("~" + HIGHEST, HIGHEST + TOP, "0.0.0");
    }

    /** Two bounds with one version between them, and with none. */
    private static void oneVersionApart() {
        inside(">=1.0.0 <=1.0.0", "1.0.0");
        outside(">=1.0.0 <=1.0.0", "1.0.0" + TOP, "1.0.1-0");
        outside(">=1.0.0 <1.0.0", "1.0.0", "1.0.0" + TOP, "1.0.1-0");
        outside(">1.0.0 <=1.0.0", "1.0.0", "1.0.0" + TOP, "1.0.1-0");
        inside("<1.0.0 || >1.0.0", "1.0.0" + TOP, "1.0.1-0");
        outside("<1.0.0 || >1.0.0", "1.0.0");
        outside("1.0.0 1.0.1", "1.0.0", "1.0.1");
    }

    /** "A version is IN a range if all tests of one choice hold." */
    private static void allTestsOfOneChoice() {
        String[] tests = {"*", ">=1.0.0", "<3.0.0", "^2.0.0"};
        inside("* >=1.0.0 <3.0.0 ^2.0.0", "2.0.0", "2.9.9");
        for (int i = 0; i < tests.length; i++) {
            StringBuilder choice = new StringBuilder();
            for (int j = 0; j < tests.length; j++) {
                choice.append(j == 0 ? "" : " ").append(i == j ? "9.9.9" : tests[j]);
            }
            outside(choice.toString(), "2.0.0", "9.9.9");
            inside(choice + " || 2.0.0", "2.0.0");
            inside("2.0.0 || " + choice, "2.0.0");
            inside("7.0.0 || 8.0.0 || " + choice + " || 2.0.0", "2.0.0");
            outside(choice + " || " + choice + " || " + choice + " || " + choice, "2.0.0");
        }
        // Tests of several choices do not come together.
        outside(">=1.0.0 <1.5.0 || >2.0.0 <2.5.0", "0.9.9", "1.5.0", "2.0.0", "2.5.0", "3.0.0");
        inside(">=1.0.0 <1.5.0 || >2.0.0 <2.5.0", "1.0.0", "1.4.9", "2.0.1", "2.4.9");
        inside("<1.0.0 >2.0.0 || 1.5.0", "1.5.0");
        outside("<1.0.0 >2.0.0 || 1.5.0", "0.5.0", "2.5.0");
    }

    /** A range that takes all 400 bytes, and one more byte than there is room for. */
    private static void longestRange() {
        String range = "1.0.0 || 2.0.0 || 3.0.0-zzzzzzzz.zzzzzzzz.zzzzzzzz.zzzzzzzz ^3.0.0-a <3.0.0 *"
                + " || >=4.0.0-zzzzzzzz.zzzzzzzz.zzzzzzzz.zzzzzzzz ~4.0.0-zzzzzzzz.zzzzzzzz.zzzzzzzz.zzzzzzzz"
                + " <4.0.5-zzzzzzzz.zzzzzzzz.zzzzzzzz.zzzzzzzz >3.0.1";
        String pad = " ".repeat(400 - "4.0.5-zz ".length() - range.length() - 1);
        Probe probe = new Probe();
        probe.match("4.0.5-zz " + pad + range + "0", 1);
        probe.match("4.0.5-zz " + pad + range + "-", FAULT);
        probe.match("4.0.6-zz " + pad + range + "0", 0);
    }

    /** "The TAPE, VERSION RANGE: 1 if it is in it, else 0. FAULT if it is not that." */
    private static void versionAndRange() {
        String[] faults = {"", "*", "1.0.0", "1.0.0 ", "* 1.0.0", "* *", "=1.0.0 *", "a *", "a 1.0.0 *", "1.0.0 a *",
            "1.0.0 * a", "1.0.0 * needs", "1.0.0 * breaks", "1.0.0 * owns", "1.0.0 * needs b *", "1.0.0 * breaks b *",
            "1.0.0 * owns p", "1.0.0 needs b *", "1.0 *", "1.0.0 || *", "|| 1.0.0 *"};
        for (String fault : faults) {
            new Probe().match(fault, FAULT);
        }
        new Probe().match("1.0.0 1.0.0", 1);
        new Probe().match("1.0.0 1.0.1", 0);
        Probe probe = Probe.withReleases("a 1.0.0").wanting("a *");
        probe.install(0, -1, 1);
        String before = probe.picture();
        probe.match("1.0.0 * needs", FAULT);
        probe.match("1.0.0 2.0.0", 0);
        probe.match("1.0.0 1.0.0", 1);
        probe.isAs(before, "match");
    }
}
