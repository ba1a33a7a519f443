/** The boundaries of NUM, VERSION, PRE, MARK and PRECEDENCE, and of promise 14 (compare). */
public final class VersionBoundariesTest {
    private static final int FAULT = PackageKeeper.FAULT;

    private VersionBoundariesTest() {
    }

    public static void main(String[] args) {
        digitsOfNum();
        firstDigitOfNum();
        bytesOfNum();
        threeNums();
        marksOfPre();
        emptyMarks();
        bytesOfMark();
        lengthOfMark();
        firstDigitOfMark();
        precedenceByNums();
        precedenceWithPre();
        precedenceOfNumberMarks();
        precedenceOfTextMarks();
        precedenceByTheFirstMarkThatDiffers();
        precedenceByFewerMarks();
        twoVersions();
        Check.finish();
    }

    /** A version wherever the document has one, and of the same precedence as itself. */
    private static void isVersion(String text) {
        new Probe().compare(text + " " + text, 0);
        Probe probe = new Probe();
        probe.match(text + " *", 1);
        String[] holding = {"", "=", "<=", ">=", "^", "~"};
        for (String sign : holding) {
            probe.match(text + " " + sign + text, 1);
        }
        probe.match(text + " <" + text, 0);
        probe.match(text + " >" + text, 0);
        probe.release("a " + text, 0);
        probe.release("b 1.0.0 needs a " + text, 1);
        probe.release("c 1.0.0 breaks a " + text, 2);
        probe.want("b " + text, 1);
    }

    /** No version, nor with any sign before it a test. */
    private static void isNoVersion(String text) {
        new Probe().compare(text + " 1.0.0", FAULT);
        new Probe().compare("1.0.0 " + text, FAULT);
        Probe probe = new Probe();
        probe.match(text + " *", FAULT);
        String[] signs = {"", "=", "<", "<=", ">", ">=", "^", "~"};
        for (String sign : signs) {
            probe.match("1.0.0 " + sign + text, FAULT);
        }
        probe.release("a " + text, FAULT);
        probe.release("a 1.0.0 needs a " + text, FAULT);
        probe.release("a 1.0.0 breaks a " + text, FAULT);
        probe.want("a " + text, FAULT);
        probe.count(0, 0);
        probe.count(1, 0);
    }

    private static void areNums(String... nums) {
        for (String num : nums) {
            isVersion(num + ".1.1");
            isVersion("1." + num + ".1");
            isVersion("1.1." + num);
            isVersion("1.1." + num + "-a");
        }
    }

    private static void areNoNums(String... nums) {
        for (String num : nums) {
            isNoVersion(num + ".1.1");
            isNoVersion("1." + num + ".1");
            isNoVersion("1.1." + num);
            isNoVersion("1.1." + num + "-a");
        }
    }

    private static void rise(String... versions) {
        for (int i = 0; i < versions.length; i++) {
            for (int j = 0; j < versions.length; j++) {
                new Probe().compare(versions[i] + " " + versions[j], Integer.compare(i, j));
            }
        }
    }

    /** "NUM: 1 to 9 digits". */
    private static void digitsOfNum() {
        areNoNums("");
        areNums("1", "12", "12345678", "123456789", "999999999", "100000000");
        areNoNums("1234567890", "1000000000", "2147483647", "2147483648", "4294967297", "9999999999",
                "18446744073709551617", "1".repeat(100));
    }

    /** "the first not 0 if there are more". */
    private static void firstDigitOfNum() {
        areNums("0", "10", "100", "100000001", "900000000");
        areNoNums("00", "01", "09", "010", "000", "000000000", "000000001", "012345678", "0123456789");
    }

    private static void bytesOfNum() {
        for (int value = 0; value < 256; value++) {
            if (value == ' ') {
                continue;
            }
            boolean isDigit = value >= '0' && value <= '9';
            String c = String.valueOf((char) value);
            new Probe().compare("1.1." + c + " 1.1.1", isDigit ? Integer.compare(value, '1') : FAULT);
            new Probe().compare("1." + c + ".1 1.1.1", isDigit ? Integer.compare(value, '1') : FAULT);
            new Probe().compare(c + ".1.1 1.1.1", isDigit ? Integer.compare(value, '1') : FAULT);
            new Probe().compare("1.1.1" + c + " 1.1.1", isDigit ? 1 : FAULT);
            new Probe().compare("1.1" + c + ".1 1.1.1", isDigit ? 1 : FAULT);
            new Probe().compare("1" + c + ".1.1 1.1.1", isDigit ? 1 : FAULT);
        }
        areNoNums("/", ":", "1/", "1:", "+1", "-1", "1e1", "0x1", "a");
    }

    /** "VERSION: NUM.NUM.NUM, its major, minor and patch, and then [- PRE]". */
    private static void threeNums() {
        isNoVersion("1");
        isNoVersion("1.1");
        isVersion("1.1.1");
        isNoVersion("1.1.1.1");
        isNoVersion("1.1.1.");
        isNoVersion(".1.1.1");
        isNoVersion("1..1");
        isNoVersion("1..1.1");
        isNoVersion("1.1..1");
        isNoVersion(".1");
        isNoVersion("01.1");
        isNoVersion("1000000000.1");
        isNoVersion("..1");
        isNoVersion("1.01");
        isNoVersion("1-a");
        isNoVersion("1.1-a");
        isNoVersion("1.1.-a");
        isVersion("1.1.1-a");
        isNoVersion("1.1.1.1-a");
        isNoVersion("1.1.1.-a");
        isNoVersion("1.1.1a");
        isNoVersion("1.1.1.a");
        isNoVersion("1.1.1+a");
        isNoVersion("1.1.1-a+b");
        isNoVersion("1,1,1");
        isNoVersion("v1.1.1");
        isVersion("999999999.999999999.999999999-zzzzzzzz.zzzzzzzz.zzzzzzzz.zzzzzzzz");
        isVersion("0.0.0-0.0.0.0");
        isVersion("0.0.0");
    }

    /** "PRE: 1 to 4 MARKS with points between". */
    private static void marksOfPre() {
        String[] marks = {"a", "0", "-", "99999999", "zzzzzzzz"};
        for (String mark : marks) {
            isNoVersion("1.1.1-");
            isVersion("1.1.1-" + mark);
            isVersion("1.1.1-" + mark + "." + mark);
            isVersion("1.1.1-" + mark + "." + mark + "." + mark);
            isVersion("1.1.1-" + mark + "." + mark + "." + mark + "." + mark);
            isNoVersion("1.1.1-" + mark + "." + mark + "." + mark + "." + mark + "." + mark);
            isNoVersion("1.1.1-" + mark + "." + mark + "." + mark + "." + mark + "." + mark + "." + mark);
        }
        isNoVersion("1.1.1-a,b");
        isNoVersion("1.1.1-a/b");
    }

    private static void emptyMarks() {
        isNoVersion("1.1.1-.");
        isNoVersion("1.1.1-.a");
        isNoVersion("1.1.1-a.");
        isNoVersion("1.1.1-a..b");
        isNoVersion("1.1.1-.a.b.c");
        isNoVersion("1.1.1-a.b..c");
        isNoVersion("1.1.1-a.b.c.");
        isNoVersion("1.1.1-a.b.c.d.");
        isNoVersion("1.1.1-...");
    }

    /** "MARK: 1 to 8 letters (small or not), digits and -". */
    private static void bytesOfMark() {
        for (int value = 0; value < 256; value++) {
            if (value == ' ') {
                continue;
            }
            char c = (char) value;
            boolean isMark = c >= 'a' && c <= 'z' || c >= 'A' && c <= 'Z' || c >= '0' && c <= '9' || c == '-';
            new Probe().compare("1.1.1-" + c + " 1.1.1-" + c, isMark ? 0 : FAULT);
            new Probe().compare("1.1.1-a" + c + " 1.1.1-a", isMark ? 1 : FAULT);
            new Probe().compare("1.1.1-" + c + "a 1.1.1-" + c + "a", isMark ? 0 : FAULT);
            new Probe().compare("1.1.1-a.b.c." + c + " 1.1.1-a.b.c." + c, isMark ? 0 : FAULT);
        }
    }

    private static void lengthOfMark() {
        String[] before = {"", "a.", "a.b.", "a.b.c."};
        for (String marks : before) {
            isNoVersion("1.1.1-" + marks);
            isVersion("1.1.1-" + marks + "x");
            isVersion("1.1.1-" + marks + "xxxxxxx");
            isVersion("1.1.1-" + marks + "xxxxxxxx");
            isNoVersion("1.1.1-" + marks + "xxxxxxxxx");
            isNoVersion("1.1.1-" + marks + "xxxxxxxxxx");
            isVersion("1.1.1-" + marks + "--------");
            isNoVersion("1.1.1-" + marks + "---------");
            isVersion("1.1.1-" + marks + "12345678");
            isNoVersion("1.1.1-" + marks + "123456789");
            isVersion("1.1.1-" + marks + "1234567a");
            isNoVersion("1.1.1-" + marks + "12345678a");
        }
        isNoVersion("1.1.1-xxxxxxxxx.a");
        isNoVersion("1.1.1-a.xxxxxxxxx.a");
    }

    /** "one of digits alone is a number, of which the first digit is not 0 if there are more". */
    private static void firstDigitOfMark() {
        String[] before = {"", "a.", "a.0.", "a.0.c."};
        for (String marks : before) {
            isVersion("1.1.1-" + marks + "0");
            isVersion("1.1.1-" + marks + "10");
            isVersion("1.1.1-" + marks + "10000000");
            isNoVersion("1.1.1-" + marks + "00");
            isNoVersion("1.1.1-" + marks + "01");
            isNoVersion("1.1.1-" + marks + "00000000");
            isNoVersion("1.1.1-" + marks + "01234567");
            isVersion("1.1.1-" + marks + "0a");
            isVersion("1.1.1-" + marks + "00a");
            isVersion("1.1.1-" + marks + "a00");
            isVersion("1.1.1-" + marks + "0-");
            isVersion("1.1.1-" + marks + "-0");
            isVersion("1.1.1-" + marks + "00-00");
            isVersion("1.1.1-" + marks + "0000000A");
        }
        isNoVersion("1.1.1-01.a");
        isNoVersion("1.1.1-a.00.a");
    }

    /** "by major, minor, patch". */
    private static void precedenceByNums() {
        rise("0.0.0", "0.0.1", "0.0.2", "0.0.9", "0.0.10", "0.0.11", "0.0.99999999", "0.0.100000000", "0.0.999999998",
                "0.0.999999999", "0.1.0", "0.1.1", "0.2.0", "0.9.0", "0.10.0", "0.999999998.0", "0.999999999.0",
                "0.999999999.999999999", "1.0.0", "1.0.1", "1.1.0", "2.0.0", "9.0.0", "10.0.0", "99999999.0.0",
                "100000000.0.0", "999999998.999999999.999999999", "999999999.0.0", "999999999.999999999.999999999");
    }

    /** "of those alike one with PRE is below one without". */
    private static void precedenceWithPre() {
        rise("1.1.0", "1.1.1-0", "1.1.1-zzzzzzzz.zzzzzzzz.zzzzzzzz.zzzzzzzz", "1.1.1", "1.1.2-0", "1.1.2", "1.2.0-0",
                "1.2.0", "2.0.0-0", "2.0.0-zzzzzzzz", "2.0.0");
        rise("0.0.0-0", "0.0.0-zzzzzzzz", "0.0.0", "0.0.1-0");
    }

    /** "numbers by their size, a number below what is none". */
    private static void precedenceOfNumberMarks() {
        String[] before = {"", "x.", "x.0.", "x.0.y."};
        for (String marks : before) {
            String at = "1.1.1-" + marks;
            rise(at + "0", at + "1", at + "2", at + "9", at + "10", at + "11", at + "19", at + "20", at + "99",
                    at + "100", at + "9999999", at + "10000000", at + "99999998", at + "99999999", at + "-",
                    at + "-1", at + "0-", at + "0a", at + "1-", at + "1a", at + "A", at + "a");
        }
    }

    /** "others byte by byte (a beginning below what is longer)". */
    private static void precedenceOfTextMarks() {
        String[] before = {"", "x.", "x.0.", "x.0.y."};
        for (String marks : before) {
            String at = "1.1.1-" + marks;
            rise(at + "-", at + "--", at + "--------", at + "-0", at + "-9", at + "-A", at + "-a", at + "0-",
                    at + "00a", at + "0a", at + "10a", at + "2a", at + "9a", at + "A", at + "A-", at + "A0", at + "AZ",
                    at + "Aa", at + "B", at + "Z", at + "Zz", at + "a", at + "a-", at + "a0", at + "aZ", at + "aa",
                    at + "aaaaaaa", at + "aaaaaaaa", at + "aaaaaaab", at + "aaaaaab", at + "b", at + "z",
                    at + "zzzzzzzy", at + "zzzzzzzz");
        }
    }

    /** "of two with it mark by mark". */
    private static void precedenceByTheFirstMarkThatDiffers() {
        rise("1.1.1-1.z.z.z", "1.1.1-2.0.0.0", "1.1.1-2.0.0.1", "1.1.1-2.0.1.0", "1.1.1-2.1.0.0", "1.1.1-a.1.z.z",
                "1.1.1-a.2.0.0", "1.1.1-a.a.1.z", "1.1.1-a.a.2.0", "1.1.1-a.a.a.1", "1.1.1-a.a.a.2", "1.1.1-a.a.a.a",
                "1.1.1-a.a.a.b", "1.1.1-a.a.b", "1.1.1-a.b", "1.1.1-b");
    }

    /** "if all of one are those of the other, the one with fewer below". */
    private static void precedenceByFewerMarks() {
        rise("1.1.1-0", "1.1.1-0.0", "1.1.1-0.0.0", "1.1.1-0.0.0.0", "1.1.1-a", "1.1.1-a.0", "1.1.1-a.0.0",
                "1.1.1-a.0.0.0", "1.1.1-a.-", "1.1.1-a-", "1.1.1-zzzzzzzz", "1.1.1-zzzzzzzz.0",
                "1.1.1-zzzzzzzz.zzzzzzzz", "1.1.1-zzzzzzzz.zzzzzzzz.zzzzzzzz",
                "1.1.1-zzzzzzzz.zzzzzzzz.zzzzzzzz.zzzzzzzz", "1.1.1");
    }

    /** "The TAPE, two VERSIONS ... FAULT if it is not that": none, one, two, three. */
    private static void twoVersions() {
        new Probe().compare("", FAULT);
        new Probe().compare("1.0.0", FAULT);
        new Probe().compare("1.0.0 ", FAULT);
        new Probe().compare("1.0.0 1.0.0", 0);
        new Probe().compare("1.0.0 1.0.0 1.0.0", FAULT);
        new Probe().compare("1.0.0 1.0.0 a", FAULT);
        new Probe().compare("a 1.0.0 1.0.0", FAULT);
        new Probe().compare("1.0.0 a 1.0.0", FAULT);
        new Probe().compare("1.0.0 =1.0.0", FAULT);
        new Probe().compare("=1.0.0 1.0.0", FAULT);
        new Probe().compare("1.0.0 *", FAULT);
        new Probe().compare("1.0.0 || 1.0.0", FAULT);
        Probe probe = Probe.withReleases("a 1.0.0").wanting("a *");
        probe.install(0, -1, 1);
        String before = probe.picture();
        probe.compare("1.0.0 1.0.0 1.0.0", FAULT);
        probe.compare("1.0.0 1.0.1", -1);
        probe.isAs(before, "compare");
    }
}
