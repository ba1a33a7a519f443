/** The boundaries of NAME, RELEASE and PATH as texts: what promise 4 (release) and others take and what is a FAULT. */
public final class ReleaseBoundariesTest {
    private static final int FAULT = PackageKeeper.FAULT;
    private static final int NONE = PackageKeeper.NONE;

    private ReleaseBoundariesTest() {
    }

    public static void main(String[] args) {
        lengthOfName();
        bytesOfName();
        wordsThatAreNoNames();
        nameAndVersion();
        numberOfNeeds();
        numberOfBreaks();
        numberOfPaths();
        allClausesAtOnce();
        clausesInAnyOrder();
        sameNameMoreThanOnce();
        wholeClauses();
        lengthOfPath();
        bytesOfPath();
        clauseWordsAsPaths();
        pathAlone();
        releaseOfFourHundredBytes();
        faultChangesNothing();
        Check.finish();
    }

    /** A name wherever the document has one. */
    private static void isName(String name) {
        Probe probe = new Probe();
        probe.release(name + " 1.0.0", 0);
        probe.release("x 1.0.0 needs " + name + " *", 1);
        probe.release("y 1.0.0 breaks " + name + " *", 2);
        probe.want(name + " *", 1);
        probe.bestIs(0);
        probe.want("x *", 2);
        probe.best(-1, 2);
        probe.want("y *", 3);
        probe.hasNoValidSet();
        probe.unwant(name, 2);
        probe.unwant(name, NONE);
    }

    private static void isNoName(String text) {
        Probe probe = new Probe();
        probe.release(text + " 1.0.0", FAULT);
        probe.release("x 1.0.0 needs " + text + " *", FAULT);
        probe.release("x 1.0.0 breaks " + text + " *", FAULT);
        probe.want(text + " *", FAULT);
        probe.unwant(text, FAULT);
        probe.count(0, 0);
        probe.count(1, 0);
    }

    /** "NAME: 1 to 8 small letters". */
    private static void lengthOfName() {
        isNoName("");
        isName("a");
        isName("ab");
        isName("abcdefg");
        isName("abcdefgh");
        isNoName("abcdefghi");
        isNoName("abcdefghij");
        isNoName("a".repeat(100));
        isName("zzzzzzzz");
        // The eighth letter counts.
        Probe probe = new Probe();
        probe.want("abcdefgh *", 1);
        probe.want("abcdefgi *", 2);
        probe.want("abcdefg *", 3);
        probe.unwant("abcdefgh", 2);
        probe.unwant("abcdefgh", NONE);
        probe.unwant("abcdefg", 1);
        probe.unwant("abcdefgi", 0);
    }

    private static void bytesOfName() {
        for (int value = 0; value < 256; value++) {
            if (value == ' ') {
                continue;
            }
            char c = (char) value;
            boolean isSmall = c >= 'a' && c <= 'z';
            new Probe().release(c + " 1.0.0", isSmall ? 0 : FAULT);
            new Probe().release("k" + c + " 1.0.0", isSmall ? 0 : FAULT);
            new Probe().release("bcdefgh" + c + " 1.0.0", isSmall ? 0 : FAULT);
            new Probe().release(c + "bcdefgh 1.0.0", isSmall ? 0 : FAULT);
            new Probe().want(c + " *", isSmall ? 1 : FAULT);
            new Probe().unwant("k" + c, isSmall ? NONE : FAULT);
            new Probe().release("k 1.0.0 needs " + c + " *", isSmall ? 0 : FAULT);
            new Probe().release("k 1.0.0 breaks " + c + "k *", isSmall ? 0 : FAULT);
        }
        isNoName("`");
        isNoName("{");
        isNoName("A");
        isNoName("aB");
        isNoName("a1");
        isNoName("a-b");
        isNoName("a.b");
    }

    /** "but not needs, breaks or owns". */
    private static void wordsThatAreNoNames() {
        isNoName("needs");
        isNoName("breaks");
        isNoName("owns");
        String[] neighbours = {"need", "needr", "needt", "needss", "aneeds", "break", "breakr", "breakt", "breakss",
            "abreaks", "own", "ownr", "ownt", "ownss", "aowns", "eeds", "reaks", "wns"};
        for (String name : neighbours) {
            isName(name);
        }
    }

    /** "RELEASE, a text: NAME VERSION, then ...". */
    private static void nameAndVersion() {
        String[] faults = {"", "a", "1.0.0", "1.0.0 a", "a a", "a a 1.0.0", "a 1.0.0 1.0.0", "a 1.0.0 a",
            "a 1.0.0 b 1.0.0", "a 1.0.0 *", "a =1.0.0", "a ^1.0.0", "a *", "a || 1.0.0", "a 1.0.0 ||", "a needs b *",
            "needs b *", "a needs b * 1.0.0", "owns p", "a owns p"};
        for (String fault : faults) {
            new Probe().release(fault, FAULT);
        }
        new Probe().release("a 1.0.0", 0);
    }

    /** "at most 6 times needs NAME RANGE". */
    private static void numberOfNeeds() {
        for (int times = 0; times <= 8; times++) {
            new Probe().release("a 1.0.0" + " needs b *".repeat(times), times <= 6 ? 0 : FAULT);
            new Probe().release("a 1.0.0 breaks c * owns p" + " needs b *".repeat(times) + " owns q",
                    times <= 6 ? 0 : FAULT);
        }
    }

    /** "3 times breaks NAME RANGE". */
    private static void numberOfBreaks() {
        for (int times = 0; times <= 6; times++) {
            new Probe().release("a 1.0.0" + " breaks b *".repeat(times), times <= 3 ? 0 : FAULT);
            new Probe().release("a 1.0.0 needs c * owns p" + " breaks b *".repeat(times) + " needs d *",
                    times <= 3 ? 0 : FAULT);
        }
    }

    /** "4 times owns PATH". */
    private static void numberOfPaths() {
        for (int times = 0; times <= 7; times++) {
            new Probe().release("a 1.0.0" + " owns p".repeat(times), times <= 4 ? 0 : FAULT);
            new Probe().release("a 1.0.0 needs c * breaks d *" + " owns p".repeat(times) + " breaks e *",
                    times <= 4 ? 0 : FAULT);
        }
    }

    private static String clauses(int needs, int breaks, int owns) {
        return "a 1.0.0" + " needs b *".repeat(needs) + " breaks c *".repeat(breaks) + " owns p".repeat(owns);
    }

    private static void allClausesAtOnce() {
        new Probe().release(clauses(6, 3, 4), 0);
        new Probe().release(clauses(7, 3, 4), FAULT);
        new Probe().release(clauses(6, 4, 4), FAULT);
        new Probe().release(clauses(6, 3, 5), FAULT);
        new Probe().release(clauses(7, 2, 4), FAULT);
        new Probe().release(clauses(5, 4, 4), FAULT);
        new Probe().release(clauses(5, 3, 5), FAULT);
        new Probe().release(clauses(7, 0, 0), FAULT);
        new Probe().release(clauses(0, 4, 0), FAULT);
        new Probe().release(clauses(0, 0, 5), FAULT);
        new Probe().release(clauses(6, 3, 4) + " b", FAULT);
        new Probe().release(clauses(6, 3, 4) + " needs", FAULT);
        // Each of the most that there can be counts: the sixth needs, the third breaks, the fourth path.
        Probe probe = new Probe();
        probe.release("a 1.0.0 needs b * needs c * needs d * needs e * needs f * needs g 1.0.0", 0);
        String[] others = {"b", "c", "d", "e", "f"};
        for (int i = 0; i < others.length; i++) {
            probe.release(others[i] + " 1.0.0", i + 1);
        }
        probe.want("a *", 1);
        probe.hasNoValidSet();
        probe.release("g 1.0.1", 6);
        probe.hasNoValidSet();
        probe.release("g 1.0.0 breaks x * breaks y * breaks h 1.0.0 owns p owns q owns r owns s", 7);
        probe.bestIs(0, 1, 2, 3, 4, 5, 7);
        probe.release("h 1.0.0", 8);
        probe.want("h *", 2);
        probe.hasNoValidSet();
        probe.release("h 1.0.1 owns s", 9);
        probe.bestIs(0, 1, 2, 3, 4, 5, 7, 9);
        probe.install(0, -1, PackageKeeper.CLASH);
    }

    /** "in any order". */
    private static void clausesInAnyOrder() {
        String[] clauses = {" needs b *", " breaks c *", " owns p"};
        int number = 0;
        Probe probe = new Probe();
        for (int i = 0; i < 3; i++) {
            for (int j = 0; j < 3; j++) {
                for (int k = 0; k < 3; k++) {
                    if (i != j && j != k && i != k && number < 5) {
                        probe.release("a 1.0." + number + clauses[i] + clauses[j] + clauses[k], number);
                        number++;
                    }
                }
            }
        }
        new Probe().release("a 1.0.0" + clauses[2] + clauses[1] + clauses[0], 0);
        new Probe().release("a 1.0.0" + (clauses[0] + clauses[1] + clauses[2]).repeat(3) + clauses[0].repeat(3)
                + clauses[2], 0);
        new Probe().release("a 1.0.0" + (clauses[2] + clauses[0]).repeat(4) + clauses[1].repeat(3)
                + clauses[0].repeat(2), 0);
        new Probe().release("a 1.0.0" + (clauses[2] + clauses[0]).repeat(4) + clauses[1].repeat(3)
                + clauses[0].repeat(3), FAULT);
    }

    private static void sameNameMoreThanOnce() {
        Probe probe = Probe.withReleases("a 1.0.0 needs b >1.0.0 needs b <1.0.2 breaks c 1.0.0 breaks c 2.0.0",
                "b 1.0.0", "b 1.0.2", "c 1.0.0", "c 2.0.0").wanting("a *");
        probe.hasNoValidSet();
        probe.release("b 1.0.1", 5);
        probe.bestIs(0, 5);
        probe.want("c *", 2);
        probe.hasNoValidSet();
        probe.release("c 1.5.0", 6);
        probe.bestIs(0, 5, 6);
    }

    private static void wholeClauses() {
        String[] faults = {"needs", "breaks", "owns", "needs b", "breaks b", "needs *", "breaks *", "needs * b",
            "needs 1.0.0", "need b *", "needss b *", "Needs b *", "NEEDS b *", "Owns p", "own p", "break b *", "b *",
            "p", "needs b * c", "needs b c *", "needs b * *c", "needs b c", "owns p q", "owns p *", "owns p ||",
            "needs b * || needs c *", "needs b needs c *", "needs b owns p", "needs needs *", "breaks breaks *",
            "needs owns p", "|| needs b *", "needs b * ||", "needs b || *"};
        for (String fault : faults) {
            new Probe().release("a 1.0.0 " + fault, FAULT);
            new Probe().release("a 1.0.0 needs x * " + fault, FAULT);
            new Probe().release("a 1.0.0 owns x " + fault, FAULT);
        }
    }

    /** "a PATH: 1 to 20 letters, small or not, digits, points, /, -". */
    private static void lengthOfPath() {
        String letters = "abcdefghijklmnopqrstuvwxyz";
        for (int length = 1; length <= 26; length++) {
            String path = letters.substring(0, length);
            Probe probe = new Probe();
            if (length <= 20) {
                probe.release("a 1.0.0 owns " + path, 0);
                probe.want("a *", 1);
                probe.install(0, -1, 1);
                probe.owner(path, 0);
                probe.owner(path.substring(0, length - 1) + "Z", NONE);
                probe.owner("Z" + path.substring(1), NONE);
                probe.owner(letters.substring(0, length + 1), length < 20 ? NONE : FAULT);
            } else {
                probe.release("a 1.0.0 owns " + path, FAULT);
                probe.owner(path, FAULT);
            }
        }
        new Probe().owner("", FAULT);
        new Probe().release("a 1.0.0 owns", FAULT);
        new Probe().release("a 1.0.0 owns ", FAULT);
        new Probe().release("a 1.0.0 owns p owns", FAULT);
    }

    private static void bytesOfPath() {
        for (int value = 0; value < 256; value++) {
            if (value == ' ') {
                continue;
            }
            char c = (char) value;
            boolean isGood = c >= 'a' && c <= 'z' || c >= 'A' && c <= 'Z' || c >= '0' && c <= '9' || c == '.'
                    || c == '/' || c == '-';
            String[] paths = {"" + c, "p" + c, c + "p", "abcdefghijklmnopqrs" + c};
            for (String path : paths) {
                new Probe().release("a 1.0.0 owns " + path, isGood ? 0 : FAULT);
                new Probe().owner(path, isGood ? NONE : FAULT);
            }
        }
    }

    /** "the word behind owns is it, also if it is needs, breaks or owns". */
    private static void clauseWordsAsPaths() {
        String[] words = {"needs", "breaks", "owns"};
        for (String word : words) {
            Probe probe = Probe.withReleases("a 1.0.0 owns " + word).wanting("a *");
            probe.install(0, -1, 1);
            probe.owner(word, 0);
            probe.release("b 1.0.0 owns " + word + " owns", FAULT);
            probe.release("b 1.0.0 owns " + word + " b *", FAULT);
            probe.release("b 1.0.0 owns " + word + " owns " + word + " needs c *", 1);
            probe.want("b *", 2);
            probe.hasNoValidSet();
            probe.release("c 1.0.0", 2);
            probe.bestIs(0, 1, 2);
        }
        Probe probe = Probe.withReleases("a 1.0.0 owns owns owns needs owns breaks").wanting("a *");
        probe.install(0, -1, 1);
        probe.owner("owns", 0);
        probe.owner("needs", 0);
        probe.owner("breaks", 0);
        // Here needs is a path, so b is no name that is needed.
        new Probe().release("a 1.0.0 owns needs needs b *", 0);
        new Probe().release("a 1.0.0 owns owns owns", FAULT);
        new Probe().release("a 1.0.0 owns owns owns owns", 0);
    }

    /** "owner: The release of the current generation that owns the TAPE, a PATH ... FAULT if it is no path." */
    private static void pathAlone() {
        new Probe().owner("p", NONE);
        new Probe().owner("p q", FAULT);
        new Probe().owner("p p", FAULT);
        new Probe().owner("owns p", FAULT);
        new Probe().owner("needs", NONE);
        new Probe().owner(" p ", NONE);
        new Probe().owner("p/", NONE);
        new Probe().owner("1.0.0", NONE);
        new Probe().owner("||", FAULT);
        new Probe().owner("*", FAULT);
    }

    /** A release may take the whole tape. */
    private static void releaseOfFourHundredBytes() {
        String text = "a 1.0.0" + " needs b <1.0.0-zzzzzzzz.zzzzzzzz.zzzzzzzz.zzzzzzzz".repeat(6)
                + " breaks c *".repeat(3) + " owns p owns q owns r owns ";
        String padded = text + " ".repeat(399 - text.length());
        Probe probe = new Probe();
        probe.release(padded + "_", FAULT);
        probe.release(padded + "s", 0);
        probe.release("b 0.9.9", 1);
        probe.want("a *", 1);
        probe.install(0, -1, 2);
        probe.owner("s", 0);
        new Probe().release("a 1.0.0" + " ".repeat(393), 0);
        new Probe().release(" ".repeat(393) + "a 1.0.0", 0);
    }

    private static void faultChangesNothing() {
        Probe probe = Probe.withReleases("a 1.0.0 owns p").wanting("a *");
        probe.install(0, -1, 1);
        String before = probe.picture();
        probe.release("a 2.0.0 needs", FAULT);
        probe.release("a 2.0.0" + " owns p".repeat(5), FAULT);
        probe.release("b", FAULT);
        probe.owner("p q", FAULT);
        probe.isAs(before, "faults");
        // What is refused has no number.
        probe.release("a 2.0.0", 1);
        probe.bestIs(1);
    }
}
