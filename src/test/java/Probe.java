/**
 * A keeper under test that counts its calls: what it answers after the 512th is free, so a test that makes more of
 * one object is itself wrong.
 */
final class Probe {
    static final int MOST_CALLS = 512;
    private static final int MOST_SHOWN = 40;

    private final PackageKeeper keeper = new PackageKeeper();
    private int calls = 0;

    int calls() {
        return calls;
    }

    private PackageKeeper called() {
        calls++;
        if (calls == MOST_CALLS + 1) {
            Check.due("calls that this test makes of one object", calls, MOST_CALLS);
        }
        return keeper;
    }

    int feed(int a, int b, int c, int d, int e) {
        return called().feed(a, b, c, d, e);
    }

    int end(int n) {
        return called().end(n);
    }

    int release() {
        return called().release();
    }

    int drop(int release) {
        return called().drop(release);
    }

    int want() {
        return called().want();
    }

    int unwant() {
        return called().unwant();
    }

    int install(int how, int cut) {
        return called().install(how, cut);
    }

    int rollback(int cut) {
        return called().rollback(cut);
    }

    int best(int k) {
        return called().best(k);
    }

    int current(int k, int what) {
        return called().current(k, what);
    }

    int step(int k, int what) {
        return called().step(k, what);
    }

    int owner() {
        return called().owner();
    }

    int compare() {
        return called().compare();
    }

    int match() {
        return called().match();
    }

    int count(int what) {
        return called().count(what);
    }

    /** Feeds the twenty bytes of a text from a place on, with zeros behind its end. */
    int feedText(String text, int from) {
        int[] five = Check.fives(text, from);
        return feed(five[0], five[1], five[2], five[3], five[4]);
    }

    /** Puts a text, and nothing else, on the tape, which must be empty. */
    Probe put(String text) {
        for (int from = 0; from < text.length(); from += 20) {
            Check.due("feed of \"" + text + "\"", feedText(text, from), from + 20);
        }
        Check.due("end of \"" + text + "\"", end(text.length()), text.length());
        return this;
    }

    void release(String text, int due) {
        Check.due("release of \"" + text + "\"", put(text).release(), due);
    }

    void drop(int release, int due) {
        Check.due("drop(" + release + ")", drop(release), due);
    }

    void want(String text, int due) {
        Check.due("want of \"" + text + "\"", put(text).want(), due);
    }

    void unwant(String text, int due) {
        Check.due("unwant of \"" + text + "\"", put(text).unwant(), due);
    }

    void owner(String text, int due) {
        Check.due("owner of \"" + text + "\"", put(text).owner(), due);
    }

    void compare(String text, int due) {
        Check.due("compare of \"" + text + "\"", put(text).compare(), due);
    }

    void match(String text, int due) {
        Check.due("match of \"" + text + "\"", put(text).match(), due);
    }

    void install(int how, int cut, int due) {
        Check.due("install(" + how + ", " + cut + ")", install(how, cut), due);
    }

    void rollback(int cut, int due) {
        Check.due("rollback(" + cut + ")", rollback(cut), due);
    }

    void best(int k, int due) {
        Check.due("best(" + k + ")", best(k), due);
    }

    void current(int k, int what, int due) {
        Check.due("current(" + k + ", " + what + ")", current(k, what), due);
    }

    void step(int k, int what, int due) {
        Check.due("step(" + k + ", " + what + ")", step(k, what), due);
    }

    void count(int what, int due) {
        Check.due("count(" + what + ")", count(what), due);
    }

    /** Releases that come into the index as number 0, 1 and so on. */
    static Probe withReleases(String... texts) {
        Probe probe = new Probe();
        for (int i = 0; i < texts.length; i++) {
            probe.release(texts[i], i);
        }
        return probe;
    }

    /** Makes these, a name and a range each, roots beside those that there are; none of them may be one yet. */
    Probe wanting(String... texts) {
        int before = count(1);
        for (int i = 0; i < texts.length; i++) {
            want(texts[i], before + i + 1);
        }
        return this;
    }

    /** The best set is just these releases, by names. */
    void bestIs(int... releases) {
        best(-1, releases.length);
        for (int k = 0; k < releases.length; k++) {
            best(k, releases[k]);
        }
        best(releases.length, PackageKeeper.NONE);
    }

    void hasNoValidSet() {
        best(-1, PackageKeeper.NONE);
        best(0, PackageKeeper.NONE);
    }

    /** The current generation is just these, a release and its circle each, in its order. */
    void currentIs(int... rows) {
        count(2, rows.length / 2);
        for (int k = 0; k < rows.length / 2; k++) {
            current(k, 0, rows[2 * k]);
            current(k, 1, rows[2 * k + 1]);
        }
        current(rows.length / 2, 0, PackageKeeper.NONE);
        current(rows.length / 2, 1, PackageKeeper.NONE);
    }

    /** The latest steps are just these, a release and whether it comes each. */
    void stepsAre(int... rows) {
        for (int k = 0; k < rows.length / 2; k++) {
            step(k, 0, rows[2 * k]);
            step(k, 1, rows[2 * k + 1]);
        }
        step(rows.length / 2, 0, PackageKeeper.NONE);
        step(rows.length / 2, 1, PackageKeeper.NONE);
    }

    /** All that calls show that change nothing. */
    String picture() {
        StringBuilder shown = new StringBuilder("counts");
        for (int what = 0; what <= 5; what++) {
            shown.append(' ').append(count(what));
        }
        shown.append(", best ").append(best(-1));
        int answer = 0;
        for (int k = 0; k < MOST_SHOWN && answer != PackageKeeper.NONE; k++) {
            answer = best(k);
            shown.append(' ').append(answer);
        }
        shown.append(", current");
        answer = 0;
        for (int k = 0; k < MOST_SHOWN && answer != PackageKeeper.NONE; k++) {
            answer = current(k, 0);
            shown.append(' ').append(answer).append('/').append(current(k, 1));
        }
        shown.append(", steps");
        answer = 0;
        for (int k = 0; k < MOST_SHOWN && answer != PackageKeeper.NONE; k++) {
            answer = step(k, 0);
            shown.append(' ').append(answer).append('/').append(step(k, 1));
        }
        return shown.toString();
    }

    /** All that calls show is as it was in this picture. */
    void isAs(String before, String what) {
        String now = picture();
        if (!now.equals(before)) {
            System.out.println(what + ": before " + before + "; now " + now);
        }
        Check.due("as before, " + what, now.equals(before) ? 1 : 0, 1);
    }
}
