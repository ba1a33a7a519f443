import java.util.ArrayList;
import java.util.Arrays;
import java.util.LinkedHashMap;
import java.util.List;
import java.util.Map;
import java.util.TreeMap;
import java.util.TreeSet;

/**
 * The document once more, as slow and as near to its words as can be: every set is tried, every text is read by
 * patterns. Random runs must give the same answers as the program.
 */
final class Model {
    private static final int REFUSED = -1, NONE = -2, FULL = -3, THERE = -4, CUT = -5, FAULT = -6, CLASH = -7;
    private static final String NUM = "(?:0|[1-9][0-9]{0,8})";
    private static final String MARK = "(?:0|[1-9][0-9]{0,7}|(?=[0-9]*[A-Za-z-])[A-Za-z0-9-]{1,8})";
    private static final String VERSION = NUM + "\\." + NUM + "\\." + NUM
            + "(?:-" + MARK + "(?:\\." + MARK + "){0,3})?";
    private static final String TEST = "(?:\\*|(?:=|<|<=|>|>=|\\^|~|)" + VERSION + ")";
    private static final String CHOICE = TEST + "(?: " + TEST + "){0,3}";
    private static final String RANGE = CHOICE + "(?: \\|\\| " + CHOICE + "){0,3}";
    private static final String NAME = "(?!(?:needs|breaks|owns)(?: |$))[a-z]{1,8}";
    private static final String PATH = "[A-Za-z0-9./-]{1,20}";

    record Demand(String name, String range) {
    }

    record Release(int number, String name, String version, List<Demand> needs, List<Demand> breaks,
            List<String> paths) {
    }

    private String tape = "";
    private final Map<Integer, Release> index = new LinkedHashMap<>();
    private int numbers = 0;
    private final Map<String, String> roots = new LinkedHashMap<>();
    private final List<List<Release>> generations = new ArrayList<>(List.of(List.of()));
    private int made = 0;
    private List<int[]> steps = List.of();
    private boolean isKnown = false;
    private List<Release> known = null;

    int feed(int... five) {
        if (tape.length() + 20 > 400) {
            return FULL;
        }
        StringBuilder more = new StringBuilder(tape);
        for (int four : five) {
            for (int shift = 24; shift >= 0; shift -= 8) {
                more.append((char) (four >> shift & 255));
            }
        }
        tape = more.toString();
        return tape.length();
    }

    int end(int n) {
        if (n < 0 || n > tape.length()) {
            return REFUSED;
        }
        tape = tape.substring(0, n);
        return n;
    }

    private String text() {
        String all = tape.replaceAll(" +", " ").replaceAll("^ | $", "");
        tape = "";
        return all;
    }

    int release() {
        String text = text();
        if (!text.matches("(?s)" + NAME + " " + VERSION + "(?: .*)?")) {
            return FAULT;
        }
        String[] words = text.split(" ");
        Release made = new Release(numbers, words[0], words[1], new ArrayList<>(), new ArrayList<>(),
                new ArrayList<>());
        int at = 2;
        while (at < words.length) {
            int from = at;
            boolean owns = words[at].equals("owns");
            at += owns ? 2 : 1;
            while (!owns && at < words.length && !words[at].matches("needs|breaks|owns")) {
                at++;
            }
            if (at > words.length || !addClause(made, String.join(" ", Arrays.copyOfRange(words, from, at)))) {
                return FAULT;
            }
        }
        if (made.needs.size() > 6 || made.breaks.size() > 3 || made.paths.size() > 4) {
            return FAULT;
        }
        return come(made);
    }

    private static boolean addClause(Release made, String clause) {
        String rest = clause.substring(clause.indexOf(' ') + 1);
        if (clause.matches("owns " + PATH)) {
            made.paths.add(rest);
        } else if (clause.matches("(?:needs|breaks) " + NAME + " " + RANGE)) {
            int blank = rest.indexOf(' ');
            (clause.startsWith("needs") ? made.needs : made.breaks)
                    .add(new Demand(rest.substring(0, blank), rest.substring(blank + 1)));
        } else {
            return false;
        }
        return true;
    }

    private int come(Release made) {
        TreeSet<String> names = new TreeSet<>(List.of(made.name));
        int alike = 1;
        for (Release other : index.values()) {
            names.add(other.name);
            if (other.name.equals(made.name)) {
                alike++;
                if (precedence(other.version, made.version) == 0) {
                    return THERE;
                }
            }
        }
        if (index.size() + 1 > 32 || names.size() > 8 || alike > 5) {
            return FULL;
        }
        index.put(numbers, made);
        isKnown = false;
        return numbers++;
    }

    int drop(int release) {
        if (index.remove(release) == null) {
            return NONE;
        }
        isKnown = false;
        return index.size();
    }

    int want() {
        String text = text();
        if (!text.matches(NAME + " " + RANGE)) {
            return FAULT;
        }
        int blank = text.indexOf(' ');
        String name = text.substring(0, blank);
        if (!roots.containsKey(name) && roots.size() == 6) {
            return FULL;
        }
        roots.put(name, text.substring(blank + 1));
        isKnown = false;
        return roots.size();
    }

    int unwant() {
        String text = text();
        if (!text.matches(NAME)) {
            return FAULT;
        }
        if (roots.remove(text) == null) {
            return NONE;
        }
        isKnown = false;
        return roots.size();
    }

    int install(int how, int cut) {
        if (how != 0 && how != 1) {
            return REFUSED;
        }
        List<Release> now = generations.get(generations.size() - 1);
        boolean stays = how == 0 && index.values().containsAll(now) && isValid(now);
        List<Release> next = stays ? now : best();
        if (next == null) {
            return NONE;
        }
        Map<String, Release> owners = new TreeMap<>();
        for (Release one : next) {
            for (String path : one.paths) {
                Release before = owners.put(path, one);
                if (before != null && before.number != one.number) {
                    return CLASH;
                }
            }
        }
        if (cut >= 0) {
            return CUT;
        }
        setSteps(now, next);
        generations.add(next);
        if (generations.size() > 4) {
            generations.remove(0);
        }
        made++;
        return next.size();
    }

    int rollback(int cut) {
        if (generations.size() == 1) {
            return NONE;
        }
        if (cut >= 0) {
            return CUT;
        }
        List<Release> gone = generations.remove(generations.size() - 1);
        List<Release> now = generations.get(generations.size() - 1);
        setSteps(gone, now);
        return now.size();
    }

    int best(int k) {
        List<Release> set = best();
        if (set == null || k < -1 || k >= set.size()) {
            return NONE;
        }
        return k == -1 ? set.size() : set.get(k).number;
    }

    int current(int k, int what) {
        if (what != 0 && what != 1) {
            return REFUSED;
        }
        List<int[]> order = order(generations.get(generations.size() - 1));
        return k < 0 || k >= order.size() ? NONE : order.get(k)[what];
    }

    int step(int k, int what) {
        if (what != 0 && what != 1) {
            return REFUSED;
        }
        return k < 0 || k >= steps.size() ? NONE : steps.get(k)[what];
    }

    int owner() {
        String text = text();
        if (!text.matches(PATH)) {
            return FAULT;
        }
        for (Release one : generations.get(generations.size() - 1)) {
            if (one.paths.contains(text)) {
                return one.number;
            }
        }
        return NONE;
    }

    int compare() {
        String text = text();
        if (!text.matches(VERSION + " " + VERSION)) {
            return FAULT;
        }
        String[] words = text.split(" ");
        return precedence(words[0], words[1]);
    }

    int match() {
        String text = text();
        if (!text.matches(VERSION + " " + RANGE)) {
            return FAULT;
        }
        int blank = text.indexOf(' ');
        return isIn(text.substring(0, blank), text.substring(blank + 1)) ? 1 : 0;
    }

    int count(int what) {
        int[] counts = {index.size(), roots.size(), generations.get(generations.size() - 1).size(),
            generations.size(), made, tape.length()};
        return what < 0 || what >= counts.length ? REFUSED : counts[what];
    }

    static int precedence(String a, String b) {
        String[] as = a.split("-", 2);
        String[] bs = b.split("-", 2);
        for (int i = 0; i < 3; i++) {
            int order = Integer.compare(Integer.parseInt(as[0].split("\\.")[i]),
                    Integer.parseInt(bs[0].split("\\.")[i]));
            if (order != 0) {
                return order;
            }
        }
        if (as.length == 1 || bs.length == 1) {
            return Integer.compare(bs.length, as.length);
        }
        String[] am = as[1].split("\\.");
        String[] bm = bs[1].split("\\.");
        for (int i = 0; i < Math.min(am.length, bm.length); i++) {
            int order = markOrder(am[i], bm[i]);
            if (order != 0) {
                return order;
            }
        }
        return Integer.compare(am.length, bm.length);
    }

    private static int markOrder(String a, String b) {
        boolean aIsNumber = a.matches("[0-9]+");
        boolean bIsNumber = b.matches("[0-9]+");
        if (aIsNumber && bIsNumber) {
            return Integer.compare(Integer.parseInt(a), Integer.parseInt(b));
        }
        if (aIsNumber != bIsNumber) {
            return aIsNumber ? -1 : 1;
        }
        return Integer.signum(a.compareTo(b));
    }

    static boolean isIn(String version, String range) {
        for (String choice : range.split(" \\|\\| ")) {
            boolean all = true;
            for (String test : choice.split(" ")) {
                all &= holds(version, test);
            }
            if (all) {
                return true;
            }
        }
        return false;
    }

    private static boolean holds(String version, String test) {
        if (test.equals("*")) {
            return true;
        }
        String sign = test.replaceAll("[^<>=^~].*", "");
        String bound = test.substring(sign.length());
        int order = precedence(version, bound);
        String[] parts = bound.split("-")[0].split("\\.");
        int major = Integer.parseInt(parts[0]);
        int minor = Integer.parseInt(parts[1]);
        int patch = Integer.parseInt(parts[2]);
        String tilde = major + "." + (minor + 1) + ".0";
        String caret = major > 0 ? major + 1 + ".0.0" : minor > 0 ? tilde : "0.0." + (patch + 1);
        return switch (sign) {
            case "<" -> order < 0;
            case "<=" -> order <= 0;
            case ">" -> order > 0;
            case ">=" -> order >= 0;
            case "^" -> order >= 0 && precedence(version, caret) < 0;
            case "~" -> order >= 0 && precedence(version, tilde) < 0;
            default -> order == 0;
        };
    }

    private static boolean hasOne(List<Release> set, Demand demand) {
        for (Release one : set) {
            if (one.name.equals(demand.name) && isIn(one.version, demand.range)) {
                return true;
            }
        }
        return false;
    }

    /** Of a set with at most one release of each name. */
    private boolean isValid(List<Release> set) {
        for (Map.Entry<String, String> root : roots.entrySet()) {
            if (!hasOne(set, new Demand(root.getKey(), root.getValue()))) {
                return false;
            }
        }
        for (Release one : set) {
            for (Demand need : one.needs) {
                if (!hasOne(set, need)) {
                    return false;
                }
            }
            for (Demand bad : one.breaks) {
                if (hasOne(set, bad)) {
                    return false;
                }
            }
        }
        TreeSet<String> reached = new TreeSet<>(roots.keySet());
        for (int round = 0; round < set.size(); round++) {
            for (Release one : set) {
                if (reached.contains(one.name)) {
                    one.needs.forEach(need -> reached.add(need.name));
                }
            }
        }
        return set.stream().allMatch(one -> reached.contains(one.name));
    }

    /** The better of two valid sets, of which one may be null. */
    private static List<Release> better(List<Release> a, List<Release> b) {
        if (a == null || b == null) {
            return a == null ? b : a;
        }
        TreeSet<String> names = new TreeSet<>();
        a.forEach(one -> names.add(one.name));
        b.forEach(one -> names.add(one.name));
        for (String name : names) {
            Release ofA = a.stream().filter(one -> one.name.equals(name)).findAny().orElse(null);
            Release ofB = b.stream().filter(one -> one.name.equals(name)).findAny().orElse(null);
            if (ofA == null || ofB == null) {
                return ofA == null ? a : b;
            }
            if (ofA.number != ofB.number) {
                return precedence(ofA.version, ofB.version) > 0 ? a : b;
            }
        }
        return a;
    }

    private List<Release> best() {
        if (!isKnown) {
            TreeMap<String, List<Release>> byName = new TreeMap<>();
            for (Release one : index.values()) {
                byName.computeIfAbsent(one.name, name -> new ArrayList<>()).add(one);
            }
            known = bestWith(new ArrayList<>(), new ArrayList<>(byName.values()), 0);
            isKnown = true;
        }
        return known;
    }

    private List<Release> bestWith(List<Release> taken, List<List<Release>> names, int at) {
        if (at == names.size()) {
            return isValid(taken) ? List.copyOf(taken) : null;
        }
        List<Release> found = bestWith(taken, names, at + 1);
        for (Release one : names.get(at)) {
            taken.add(one);
            found = better(found, bestWith(taken, names, at + 1));
            taken.remove(taken.size() - 1);
        }
        return found;
    }

    /** Whether a needs b, by way of others too; the depth is that of ways without a release twice. */
    private static boolean leadsTo(List<Release> set, Release a, Release b, int depth) {
        for (Demand need : a.needs) {
            if (need.name.equals(b.name)) {
                return true;
            }
            for (Release by : set) {
                if (depth > 0 && by.name.equals(need.name) && leadsTo(set, by, b, depth - 1)) {
                    return true;
                }
            }
        }
        return false;
    }

    /** Releases and their circles, of a set that is given by names. */
    private static List<int[]> order(List<Release> set) {
        List<int[]> order = new ArrayList<>();
        List<Release> left = new ArrayList<>(set);
        int depth = set.size();
        for (int circle = 0; !left.isEmpty(); circle++) {
            List<Release> next = null;
            for (Release one : left) {
                List<Release> mates = left.stream().filter(other -> other == one
                        || leadsTo(set, one, other, depth) && leadsTo(set, other, one, depth)).toList();
                boolean isReady = left.stream().allMatch(other -> mates.contains(other)
                        || mates.stream().noneMatch(mate -> leadsTo(set, mate, other, 0)));
                if (next == null && isReady) {
                    next = mates;
                }
            }
            for (Release one : next) {
                order.add(new int[] {one.number, circle});
            }
            left.removeAll(next);
        }
        return order;
    }

    private void setSteps(List<Release> from, List<Release> to) {
        List<int[]> all = new ArrayList<>();
        for (int[] row : order(from)) {
            if (to.stream().noneMatch(one -> one.number == row[0])) {
                all.add(0, new int[] {row[0], 0});
            }
        }
        for (int[] row : order(to)) {
            if (from.stream().noneMatch(one -> one.number == row[0])) {
                all.add(new int[] {row[0], 1});
            }
        }
        steps = all;
    }
}
