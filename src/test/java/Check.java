/** What the tests share: texts to the tape and back, and answers that are counted when they are not the due ones. */
final class Check {
    private static int checked = 0;
    private static int wrong = 0;

    private Check() {
    }

    static void due(String what, int got, int want) {
        checked++;
        if (got != want) {
            wrong++;
            System.out.println(what + " answered " + got + ", due is " + want);
        }
    }

    /** Ends the test: with exit code 1 if an answer was not the one that is due. */
    static void finish() {
        System.out.println(checked + " answers, " + wrong + " not as due");
        if (wrong != 0) {
            System.exit(1);
        }
    }

    static boolean isAllRight() {
        return wrong == 0;
    }

    static int[] fives(String text, int from) {
        int[] five = new int[5];
        for (int i = 0; i < 20; i++) {
            int place = from + i;
            five[i / 4] = five[i / 4] << 8 | (place < text.length() ? text.charAt(place) & 255 : 0);
        }
        return five;
    }

    /** Puts a text behind what the tape has; it must have room for it in twenties. */
    static void tape(PackageKeeper keeper, String text) {
        int before = keeper.count(5);
        for (int from = 0; from < text.length(); from += 20) {
            int[] five = fives(text, from);
            due("feed of \"" + text + "\"", keeper.feed(five[0], five[1], five[2], five[3], five[4]),
                    before + from + 20);
        }
        due("end of \"" + text + "\"", keeper.end(before + text.length()), before + text.length());
    }

    static void release(PackageKeeper keeper, String text, int want) {
        tape(keeper, text);
        due("release of \"" + text + "\"", keeper.release(), want);
        due("bytes behind release", keeper.count(5), 0);
    }

    static void want(PackageKeeper keeper, String text, int want) {
        tape(keeper, text);
        due("want of \"" + text + "\"", keeper.want(), want);
        due("bytes behind want", keeper.count(5), 0);
    }

    static void unwant(PackageKeeper keeper, String text, int want) {
        tape(keeper, text);
        due("unwant of \"" + text + "\"", keeper.unwant(), want);
        due("bytes behind unwant", keeper.count(5), 0);
    }

    static void owner(PackageKeeper keeper, String text, int want) {
        tape(keeper, text);
        due("owner of \"" + text + "\"", keeper.owner(), want);
        due("bytes behind owner", keeper.count(5), 0);
    }

    static void compare(PackageKeeper keeper, String text, int want) {
        tape(keeper, text);
        due("compare of \"" + text + "\"", keeper.compare(), want);
        due("bytes behind compare", keeper.count(5), 0);
    }

    static void match(PackageKeeper keeper, String text, int want) {
        tape(keeper, text);
        due("match of \"" + text + "\"", keeper.match(), want);
        due("bytes behind match", keeper.count(5), 0);
    }

    static void install(PackageKeeper keeper, int how, int cut, int want) {
        due("install(" + how + ", " + cut + ")", keeper.install(how, cut), want);
    }

    static void rollback(PackageKeeper keeper, int cut, int want) {
        due("rollback(" + cut + ")", keeper.rollback(cut), want);
    }

    /** The best set is just these releases, by names. */
    static void bestIs(PackageKeeper keeper, int... releases) {
        due("best(-1)", keeper.best(-1), releases.length);
        for (int k = 0; k < releases.length; k++) {
            due("best(" + k + ")", keeper.best(k), releases[k]);
        }
        due("best behind the last", keeper.best(releases.length), PackageKeeper.NONE);
    }

    /** The current generation is just these, a release and its circle each. */
    static void currentIs(PackageKeeper keeper, int... rows) {
        due("count(2)", keeper.count(2), rows.length / 2);
        for (int k = 0; k < rows.length / 2; k++) {
            due("current(" + k + ", 0)", keeper.current(k, 0), rows[2 * k]);
            due("current(" + k + ", 1)", keeper.current(k, 1), rows[2 * k + 1]);
        }
        due("current behind the last", keeper.current(rows.length / 2, 0), PackageKeeper.NONE);
        due("current behind the last", keeper.current(rows.length / 2, 1), PackageKeeper.NONE);
    }

    /** The steps are just these, a release and whether it comes each. */
    static void stepsAre(PackageKeeper keeper, int... rows) {
        for (int k = 0; k < rows.length / 2; k++) {
            due("step(" + k + ", 0)", keeper.step(k, 0), rows[2 * k]);
            due("step(" + k + ", 1)", keeper.step(k, 1), rows[2 * k + 1]);
        }
        due("step behind the last", keeper.step(rows.length / 2, 0), PackageKeeper.NONE);
        due("step behind the last", keeper.step(rows.length / 2, 1), PackageKeeper.NONE);
    }

    static void counts(PackageKeeper keeper, int... counts) {
        for (int what = 0; what < counts.length; what++) {
            due("count(" + what + ")", keeper.count(what), counts[what]);
        }
    }
}
