import java.util.Random;

/** Random runs of calls, the same at every start, in which the program must answer as the model does. */
public final class RandomRunsTest {
    private static final int CALLS = 512;
    private static final String[] NAMES = {"a", "b", "c", "d", "ab", "abc", "zzzzzzzz", "need", "e", "f"};
    private static final String[] MARKS = {"0", "1", "10", "2", "a", "A", "ab", "-", "a-1", "1a", "99999999",
        "zzzzzzzz"};
    private static final String[] SIGNS = {"", "=", "<", "<=", ">", ">=", "^", "~"};
    private static final String[] PATHS = {"p", "q", "bin/a", "needs", "A-1./x", "abcdefghijklmnopqrst", "r", "s", "t"};
    private static final String SPOILERS = " .-|*<>=^~0129azAZ_/\0\t\u00ff";

    private final Random random;
    private final int nameCount;
    private final int numberCount;
    private final boolean isQuiet;
    private PackageKeeper keeper = new PackageKeeper();
    private Model model = new Model();
    private final StringBuilder log = new StringBuilder();
    private int calls = 0;

    private RandomRunsTest(long seed, int nameCount, int numberCount, boolean isQuiet) {
        random = new Random(seed);
        this.nameCount = nameCount;
        this.numberCount = numberCount;
        this.isQuiet = isQuiet;
    }

    public static void main(String[] args) {
        int runs = args.length > 0 ? Integer.parseInt(args[0]) : 60;
        for (int seed = 0; seed < runs && Check.isAllRight(); seed++) {
            new RandomRunsTest(seed, 2 + seed % 5, 2 + seed % 3, seed % 2 == 0).run(seed);
        }
        for (int seed = 0; seed < runs / 20 && Check.isAllRight(); seed++) {
            new RandomRunsTest(1000 + seed, 10, 2, true).run(seed);
        }
        Check.finish();
    }

    private void run(int seed) {
        while (calls < CALLS - 30 && Check.isAllRight()) {
            act();
        }
        if (!Check.isAllRight()) {
            System.out.println("run " + seed + ":\n" + log);
        }
    }

    private void due(String call, int got, int want) {
        calls++;
        log.append(call).append(" -> ").append(got).append('\n');
        Check.due(call, got, want);
    }

    private void act() {
        int kind = random.nextInt(100);
        if (kind < 32) {
            put(releaseText());
            due("release", keeper.release(), model.release());
        } else if (kind < 46) {
            put(name() + " " + easyRange());
            due("want", keeper.want(), model.want());
        } else if (kind < 56) {
            put(name());
            due("unwant", keeper.unwant(), model.unwant());
        } else if (kind < 61) {
            int number = random.nextInt(20) - 1;
            due("drop(" + number + ")", keeper.drop(number), model.drop(number));
        } else if (kind < 77) {
            int how = random.nextInt(20) == 0 ? random.nextInt(5) - 2 : random.nextInt(2);
            int cut = random.nextInt(8) == 0 ? random.nextInt() : -1;
            due("install(" + how + ", " + cut + ")", keeper.install(how, cut), model.install(how, cut));
            look();
        } else if (kind < 83) {
            int cut = random.nextInt(4) == 0 ? random.nextInt() : -1;
            due("rollback(" + cut + ")", keeper.rollback(cut), model.rollback(cut));
            look();
        } else if (kind < 86) {
            for (int k = -2; k < 9; k++) {
                due("best(" + k + ")", keeper.best(k), model.best(k));
            }
        } else if (kind < 90) {
            put(pick(PATHS));
            due("owner", keeper.owner(), model.owner());
        } else if (kind < 93) {
            put(version() + " " + version());
            due("compare", keeper.compare(), model.compare());
        } else if (kind < 98) {
            put(version() + " " + range());
            due("match", keeper.match(), model.match());
        } else {
            int n = random.nextInt(60) - 5;
            due("end(" + n + ")", keeper.end(n), model.end(n));
        }
        int what = random.nextInt(8) - 1;
        due("count(" + what + ")", keeper.count(what), model.count(what));
    }

    private void look() {
        for (int k = random.nextInt(2) - 1; k < 9; k += 1 + random.nextInt(3)) {
            int what = random.nextInt(2);
            due("current(" + k + ", " + what + ")", keeper.current(k, what), model.current(k, what));
            due("step(" + k + ", " + what + ")", keeper.step(k, what), model.step(k, what));
        }
    }

    private void put(String whole) {
        String text = isQuiet ? whole : spoilt(whole);
        int before = model.count(5);
        for (int from = 0; from < text.length(); from += 20) {
            int[] five = Check.fives(text, from);
            due("feed", keeper.feed(five[0], five[1], five[2], five[3], five[4]), model.feed(five));
        }
        int end = before + text.length();
        log.append('"').append(text).append("\"\n");
        due("end(" + end + ")", keeper.end(end), model.end(end));
    }

    private String spoilt(String text) {
        if (text.isEmpty() || random.nextInt(6) != 0) {
            return text;
        }
        int at = random.nextInt(text.length());
        char spoiler = SPOILERS.charAt(random.nextInt(SPOILERS.length()));
        return switch (random.nextInt(3)) {
            case 0 -> text.substring(0, at) + text.substring(at + 1);
            case 1 -> text.substring(0, at) + spoiler + text.substring(at);
            default -> text.substring(0, at) + spoiler + text.substring(at + 1);
        };
    }

    private String pick(String[] texts) {
        return texts[random.nextInt(texts.length)];
    }

    private String name() {
        return NAMES[random.nextInt(nameCount)];
    }

    private String version() {
        StringBuilder text = new StringBuilder();
        text.append(random.nextInt(numberCount)).append('.').append(random.nextInt(numberCount));
        text.append('.').append(random.nextInt(2));
        if (random.nextInt(4) == 0) {
            text.append('-').append(pick(MARKS));
            for (int i = random.nextInt(6); i > 2; i--) {
                text.append('.').append(pick(MARKS));
            }
        }
        return text.toString();
    }

    private String range() {
        StringBuilder text = new StringBuilder();
        int most = isQuiet ? 4 : 5;
        int choices = random.nextInt(3) > 0 ? 1 : 1 + random.nextInt(most);
        for (int c = 0; c < choices; c++) {
            text.append(c > 0 ? " || " : "");
            int tests = random.nextInt(3) > 0 ? 1 : 1 + random.nextInt(most);
            for (int t = 0; t < tests; t++) {
                text.append(t > 0 ? " " : "");
                text.append(random.nextInt(3) == 0 ? "*" : pick(SIGNS) + version());
            }
        }
        return text.toString();
    }

    /** One that often has a version that is there, so that often some set is valid. */
    private String easyRange() {
        return random.nextInt(3) > 0 ? "*" : range();
    }

    private String releaseText() {
        StringBuilder text = new StringBuilder(name() + " " + version());
        for (int i = random.nextInt(5); i > 0; i--) {
            int kind = random.nextInt(10);
            if (kind < 6) {
                text.append(" needs ").append(name()).append(' ').append(easyRange());
            } else if (kind < 7) {
                text.append(" breaks ").append(name()).append(' ').append(version());
            } else {
                text.append(" owns ").append(pick(PATHS)).append(random.nextInt(2) > 0 ? "" : "/" + random.nextInt(9));
            }
        }
        return text.toString();
    }
}
