/** The boundaries of THE TAPE and its words, of promise 2 (feed) and of promise 3 (end). */
public final class TapeBoundariesTest {
    private static final int LEAST = Integer.MIN_VALUE;
    private static final int MOST = Integer.MAX_VALUE;
    private static final int FULL = PackageKeeper.FULL;
    private static final int FAULT = PackageKeeper.FAULT;
    private static final int NONE = PackageKeeper.NONE;
    private static final int REFUSED = PackageKeeper.REFUSED;
    private static final int THERE = PackageKeeper.THERE;

    private TapeBoundariesTest() {
    }

    public static void main(String[] args) {
        noneAtFirst();
        atMostFourHundred();
        fullFeedLeavesTheTape();
        lastBytesCount();
        highestByteFirst();
        bytesAboveAscii();
        endAtItsLength();
        endCutsBehind();
        refusedEndLeavesTheTape();
        oneBlankOrMoreBetween();
        anyNumberBeforeAndBehind();
        onlyThirtyTwoIsBlank();
        releaseEmptiesIt();
        wantAndUnwantEmptyIt();
        ownerEmptiesIt();
        compareAndMatchEmptyIt();
        otherCallsLeaveIt();
        Check.finish();
    }

    /** A text of just so many bytes of which compare says -1 only if its first and its last bytes are all there. */
    private static String risingPair(int length) {
        return "1.0.0" + " ".repeat(length - 10) + "1.0.1";
    }

    /** A tape that has so many bytes, all zeros. */
    private static Probe withBytes(int size) {
        Probe probe = new Probe();
        for (int fed = 0; fed < size; fed += 20) {
            Check.due("feed", probe.feed(0, 0, 0, 0, 0), fed + 20);
        }
        Check.due("end", probe.end(size), size);
        return probe;
    }

    /** "THE TAPE has bytes, none at first". */
    private static void noneAtFirst() {
        Probe probe = new Probe();
        probe.count(5, 0);
        Check.due("end(1)", probe.end(1), REFUSED);
        Check.due("end(0)", probe.end(0), 0);
        Check.due("first feed", probe.feed(0, 0, 0, 0, 0), 20);
        Check.due("release", new Probe().release(), FAULT);
        Check.due("want", new Probe().want(), FAULT);
        Check.due("unwant", new Probe().unwant(), FAULT);
        Check.due("owner", new Probe().owner(), FAULT);
        Check.due("compare", new Probe().compare(), FAULT);
        Check.due("match", new Probe().match(), FAULT);
    }

    /** "at most 400"; "how many it has; FULL if it would have more than 400": behind every length that it can have. */
    private static void atMostFourHundred() {
        for (int size = 0; size <= 400; size++) {
            Probe probe = withBytes(size);
            boolean fits = size <= 380;
            Check.due("feed behind " + size, probe.feed(MOST, -1, LEAST, 0, 1), fits ? size + 20 : FULL);
            probe.count(5, fits ? size + 20 : size);
        }
        Probe probe = withBytes(400);
        Check.due("feed", probe.feed(0, 0, 0, 0, 0), FULL);
        Check.due("feed again", probe.feed(0, 0, 0, 0, 0), FULL);
        Check.due("end", probe.end(380), 380);
        Check.due("feed to 400", probe.feed(0, 0, 0, 0, 0), 400);
        Check.due("feed", probe.feed(0, 0, 0, 0, 0), FULL);
    }

    private static void fullFeedLeavesTheTape() {
        int[] sizes = {381, 382, 399, 400};
        for (int size : sizes) {
            Probe probe = new Probe().put(risingPair(size));
            String before = probe.picture();
            Check.due("feed behind " + size, probe.feed(-1, -1, -1, -1, -1), FULL);
            probe.isAs(before, "full feed");
            Check.due("compare of " + size, probe.compare(), -1);
        }
    }

    /** The 400th byte counts as all others do: it is part of the last word. */
    private static void lastBytesCount() {
        int[] sizes = {20, 21, 379, 380, 381, 399, 400};
        for (int size : sizes) {
            String pair = risingPair(size);
            new Probe().compare(pair, -1);
            new Probe().compare(pair.substring(0, size - 1) + "0", 0);
            new Probe().compare(pair.substring(0, size - 1) + "x", FAULT);
            new Probe().compare("x" + pair.substring(1), FAULT);
        }
    }

    /** "Twenty bytes, five times four, the highest of each first": each of the twenty is where it belongs. */
    private static void highestByteFirst() {
        String word = "1.2.3-bcdefgh.bcdef ";
        for (int i = 0; i < 19; i++) {
            char c = word.charAt(i);
            String higher = word.substring(0, i) + (char) (c + 1) + word.substring(i + 1);
            boolean isSign = c == '.' || c == '-';
            new Probe().compare(word + word, 0);
            new Probe().compare(higher + word, isSign ? FAULT : 1);
            new Probe().compare(word + higher, isSign ? FAULT : -1);
        }
        Probe probe = new Probe();
        Check.due("feed", probe.feed(0x312e302e, 0x3020322e, 0x302e3020, 0x20202020, 0x20202020), 20);
        Check.due("compare", probe.compare(), -1);
    }

    /** Bytes from 128 on are bytes as others: of no word that is read, and no others stand beside them. */
    private static void bytesAboveAscii() {
        for (int high = 128; high < 256; high++) {
            for (int shift = 0; shift <= 24; shift += 8) {
                Probe probe = new Probe();
                Check.due("feed", probe.feed(0x312e302e, 0x3020322e, 0x302e3020, 0x20202020, high << shift), 20);
                Check.due("end", probe.end(16), 16);
                Check.due("compare without " + high, probe.compare(), -1);
                Check.due("feed", probe.feed(0x312e302e, 0x3020322e, 0x302e3020, 0x20202020, high << shift), 20);
                Check.due("compare with " + high, probe.compare(), FAULT);
            }
        }
        Probe probe = new Probe();
        // The lowest byte of the third int is cut off, those above it are "2.0.0" still.
        Check.due("feed", probe.feed(0x312e302e, 0x3020322e, 0x302e30ff, -1, -1), 20);
        Check.due("end", probe.end(11), 11);
        Check.due("compare", probe.compare(), -1);
    }

    /** "The TAPE is cut to its first n bytes: n; REFUSED if it has less, or n is below 0." */
    private static void endAtItsLength() {
        int[] sizes = {0, 1, 2, 19, 20, 21, 399, 400};
        for (int size : sizes) {
            int[] beyond = {-1, -2, LEAST, size + 1, size + 2, 401, MOST};
            for (int n : beyond) {
                Probe probe = withBytes(size);
                Check.due("end(" + n + ") of " + size, probe.end(n), REFUSED);
                probe.count(5, size);
            }
            for (int n = Math.max(0, size - 2); n <= size; n++) {
                Probe probe = withBytes(size);
                Check.due("end(" + n + ") of " + size, probe.end(n), n);
                probe.count(5, n);
                Check.due("end behind it", probe.end(n + 1), REFUSED);
            }
            Probe probe = withBytes(size);
            Check.due("end(0) of " + size, probe.end(0), 0);
            probe.count(5, 0);
        }
    }

    private static void endCutsBehind() {
        String text = "1.0.12 1.0.12";
        int[] dues = {FAULT, FAULT, 1, 0};
        for (int n = 10; n <= 13; n++) {
            Probe probe = new Probe().put(text);
            Check.due("end", probe.end(n), n);
            Check.due("compare of the first " + n, probe.compare(), dues[n - 10]);
        }
        // What comes after a cut stands where it was made.
        Probe probe = new Probe().put("1.0.5 1.0.49");
        Check.due("end", probe.end(11), 11);
        Check.due("feed", probe.feedText("9 ", 0), 31);
        Check.due("end", probe.end(13), 13);
        Check.due("compare", probe.compare(), -1);
    }

    private static void refusedEndLeavesTheTape() {
        int[] refused = {-1, LEAST, 12, 20, 400, 401, MOST};
        for (int n : refused) {
            Probe probe = new Probe().put("1.0.0 1.0.1");
            String before = probe.picture();
            Check.due("end(" + n + ")", probe.end(n), REFUSED);
            probe.isAs(before, "refused end");
            Check.due("compare", probe.compare(), -1);
        }
    }

    /** "WORDS with blanks (32) between, one or more". */
    private static void oneBlankOrMoreBetween() {
        new Probe().compare("1.0.01.0.1", FAULT);
        for (int blanks = 1; blanks <= 390; blanks++) {
            new Probe().compare("1.0.0" + " ".repeat(blanks) + "1.0.1", -1);
        }
        for (int blanks = 1; blanks <= 3; blanks++) {
            String blank = " ".repeat(blanks);
            Probe probe = new Probe();
            probe.release("a 1.0.0 needs b >1.0.0 || * breaks c * owns p".replace(" ", blank), 0);
            probe.want("a 1.0.0 * || *".replace(" ", blank), 1);
            probe.match("1.5.0 >1.0.0 <2.0.0 || 3.0.0".replace(" ", blank), 1);
        }
        new Probe().release("a1.0.0", FAULT);
        new Probe().release("a 1.0.0needs b *", FAULT);
        new Probe().release("a 1.0.0 needsb *", FAULT);
        new Probe().release("a 1.0.0 needs b*", FAULT);
        new Probe().release("a 1.0.0 needs b *owns p", FAULT);
        new Probe().release("a 1.0.0 ownsp", FAULT);
        new Probe().want("a*", FAULT);
        new Probe().match("1.0.0* ", FAULT);
        new Probe().match("1.0.0 **", FAULT);
    }

    /** "any number before and behind". */
    private static void anyNumberBeforeAndBehind() {
        for (int blanks = 0; blanks <= 389; blanks++) {
            new Probe().compare(" ".repeat(blanks) + "1.0.0 1.0.1", -1);
            new Probe().compare("1.0.0 1.0.1" + " ".repeat(blanks), -1);
        }
        new Probe().compare(" ".repeat(194) + "1.0.0 1.0.1" + " ".repeat(195), -1);
        int[] some = {0, 1, 2, 380};
        for (int blanks : some) {
            String blank = " ".repeat(blanks);
            Probe probe = Probe.withReleases(blank + "a 1.0.0 owns p", "b 1.0.0 owns q" + blank);
            probe.want(blank + "a *", 1);
            probe.want("b *" + blank, 2);
            probe.install(0, -1, 2);
            probe.owner(blank + "p", 0);
            probe.owner("q" + blank, 1);
            probe.match(blank + "1.0.0 *", 1);
            probe.match("1.0.0 *" + blank, 1);
            probe.unwant(blank + "a", 1);
            probe.unwant("b" + blank, 0);
        }
        int[] blanksAlone = {0, 1, 2, 20, 399, 400};
        for (int blanks : blanksAlone) {
            String blank = " ".repeat(blanks);
            new Probe().release(blank, FAULT);
            new Probe().want(blank, FAULT);
            new Probe().unwant(blank, FAULT);
            new Probe().owner(blank, FAULT);
            new Probe().compare(blank, FAULT);
            new Probe().match(blank, FAULT);
        }
    }

    /** "all other bytes belong to words": 31 and 33 do, and so do all that are blanks elsewhere. */
    private static void onlyThirtyTwoIsBlank() {
        for (int value = 0; value < 256; value++) {
            String c = String.valueOf((char) value);
            boolean isBlank = value == 32;
            new Probe().compare("1.0.0" + c + "2.0.0", isBlank ? -1 : FAULT);
            new Probe().compare("1.0.0 2.0.0" + c, isBlank ? -1 : FAULT);
            new Probe().compare("1.0.0 2.0.0 " + c, isBlank ? -1 : FAULT);
            boolean isNumber = value >= '1' && value <= '9';
            new Probe().compare(c + "1.0.0 2.0.0", isBlank ? -1 : isNumber ? 1 : FAULT);
            new Probe().compare(c + " 1.0.0 2.0.0", isBlank ? -1 : FAULT);
        }
    }

    private static void isEmptied(Probe probe) {
        probe.count(5, 0);
        Check.due("end(1) of the emptied tape", probe.end(1), REFUSED);
        probe.compare("1.0.0 1.0.1", -1);
    }

    /** "calls that read it empty it": whatever they answer. */
    private static void releaseEmptiesIt() {
        Probe probe = new Probe();
        for (int v = 0; v < 5; v++) {
            probe.release("a 1.0." + v, v);
            isEmptied(probe);
        }
        probe.release("a 1.0", FAULT);
        isEmptied(probe);
        probe.release("a 1.0.0", THERE);
        isEmptied(probe);
        probe.release("a 1.0.5", FULL);
        isEmptied(probe);
    }

    private static void wantAndUnwantEmptyIt() {
        Probe probe = new Probe();
        String[] roots = {"a", "b", "c", "d", "e", "f"};
        for (int i = 0; i < roots.length; i++) {
            probe.want(roots[i] + " *", i + 1);
            isEmptied(probe);
        }
        probe.want("a 1.0.0", 6);
        isEmptied(probe);
        probe.want("g *", FULL);
        isEmptied(probe);
        probe.want("g", FAULT);
        isEmptied(probe);
        probe.unwant("a", 5);
        isEmptied(probe);
        probe.unwant("a", NONE);
        isEmptied(probe);
        probe.unwant("a *", FAULT);
        isEmptied(probe);
    }

    private static void ownerEmptiesIt() {
        Probe probe = Probe.withReleases("a 1.0.0 owns p").wanting("a *");
        probe.install(0, -1, 1);
        probe.owner("p", 0);
        isEmptied(probe);
        probe.owner("q", NONE);
        isEmptied(probe);
        probe.owner("p q", FAULT);
        isEmptied(probe);
    }

    private static void compareAndMatchEmptyIt() {
        Probe probe = new Probe();
        probe.compare("1.0.0 2.0.0", -1);
        isEmptied(probe);
        probe.compare("1.0.0 1.0.0", 0);
        isEmptied(probe);
        probe.compare("2.0.0 1.0.0", 1);
        isEmptied(probe);
        probe.compare("2.0.0 1.0", FAULT);
        isEmptied(probe);
        probe.match("1.0.0 *", 1);
        isEmptied(probe);
        probe.match("1.0.0 2.0.0", 0);
        isEmptied(probe);
        probe.match("1.0.0", FAULT);
        isEmptied(probe);
    }

    /** Calls that do not read the tape leave it, whatever they answer. */
    private static void otherCallsLeaveIt() {
        Probe probe = Probe.withReleases("a 1.0.0 owns p", "b 1.0.0 owns p", "c 1.0.0").wanting("a *");
        probe.put("1.0.0 1.0.1");
        probe.install(0, -1, 1);
        probe.install(2, -1, REFUSED);
        probe.install(1, 0, PackageKeeper.CUT);
        probe.rollback(0, PackageKeeper.CUT);
        probe.rollback(-1, 0);
        probe.rollback(-1, NONE);
        probe.drop(2, 2);
        probe.drop(2, NONE);
        probe.bestIs(0);
        probe.current(0, 0, NONE);
        probe.current(0, 2, REFUSED);
        probe.step(0, 0, 0);
        probe.step(0, 2, REFUSED);
        for (int what = -1; what <= 6; what++) {
            probe.count(what);
        }
        probe.count(5, 11);
        Check.due("compare", probe.compare(), -1);
        probe.want("b *", 2);
        probe.put("1.0.0 1.0.1");
        probe.install(0, -1, PackageKeeper.CLASH);
        probe.drop(1, 1);
        probe.install(0, -1, NONE);
        probe.count(5, 11);
        Check.due("compare", probe.compare(), -1);
    }
}
