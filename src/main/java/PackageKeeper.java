/**
 * A keeper of packages: of all releases that an index lists it finds the best set that meets what is
 * wanted, and keeps the sets that were installed as generations that can be taken back.
 */
public final class PackageKeeper {
    public static final int REFUSED = -1, NONE = -2, FULL = -3, THERE = -4, CUT = -5, FAULT = -6, CLASH = -7;

    private static final int BYTES_OF_A_FEED = 20;
    private static final int MOST_ROOTS = 6;

    private final Tape tape;
    private final Reader reader;
    private final Index index;
    private final Demands roots;
    private final Solver solver;
    private final History history;

    public PackageKeeper() {
        tape = new Tape();
        reader = new Reader(tape);
        index = new Index();
        roots = new Demands(MOST_ROOTS);
        solver = new Solver(index, roots);
        history = new History();
    }

    public int feed(int a, int b, int c, int d, int e) {
        if (!tape.hasRoomFor(BYTES_OF_A_FEED)) {
            return FULL;
        }
        tape.addFour(a);
        tape.addFour(b);
        tape.addFour(c);
        tape.addFour(d);
        tape.addFour(e);
        return tape.size();
    }

    public int end(int n) {
        if (n < 0 || n > tape.size()) {
            return REFUSED;
        }
        tape.cutTo(n);
        return n;
    }

    public int release() {
        reader.open();
        Release made = reader.readRelease(index.nextNumber());
        if (!finishTape() || made == null) {
            return FAULT;
        }
        if (index.hasOneLike(made)) {
            return THERE;
        }
        if (!index.hasRoomFor(made)) {
            return FULL;
        }
        index.insert(made);
        solver.forget();
        return made.number;
    }

    public int drop(int release) {
        int place = index.placeOf(release);
        if (place < 0) {
            return NONE;
        }
        index.remove(place);
        solver.forget();
        return index.size();
    }

    public int want() {
        reader.open();
        long name = reader.readName();
        Range range = name == Reader.NO_NAME ? null : reader.readRange();
        if (!finishTape() || range == null) {
            return FAULT;
        }
        if (!roots.put(name, range)) {
            return FULL;
        }
        solver.forget();
        return roots.size();
    }

    public int unwant() {
        reader.open();
        long name = reader.readName();
        if (!finishTape() || name == Reader.NO_NAME) {
            return FAULT;
        }
        int place = roots.placeOf(name);
        if (place < 0) {
            return NONE;
        }
        roots.remove(place);
        solver.forget();
        return roots.size();
    }

    public int install(int how, int cut) {
        if (how != 0 && how != 1) {
            return REFUSED;
        }
        solver.learn();
        Generation next = how == 0 && isStillValid(history.top()) ? history.top() : bestGeneration();
        if (next == null) {
            return NONE;
        }
        if (next.hasSharedPath()) {
            return CLASH;
        }
        if (cut >= 0) {
            return CUT;
        }
        history.put(next);
        return next.size();
    }

    public int rollback(int cut) {
        if (!history.hasEarlier()) {
            return NONE;
        }
        if (cut >= 0) {
            return CUT;
        }
        history.takeBack();
        return history.top().size();
    }

    public int best(int k) {
        solver.learn();
        if (k < -1 || !solver.hasSolution()) {
            return NONE;
        }
        int places = solver.solution();
        if (k == -1) {
            return Integer.bitCount(places);
        }
        int before = 0;
        for (int place = 0; place < index.size(); place++) {
            if (isIn(places, place)) {
                if (before == k) {
                    return index.at(place).number;
                }
                before++;
            }
        }
        return NONE;
    }

    public int current(int k, int what) {
        if (what != 0 && what != 1) {
            return REFUSED;
        }
        Generation top = history.top();
        if (k < 0 || k >= top.size()) {
            return NONE;
        }
        return what == 0 ? top.at(k).number : top.circleAt(k);
    }

    public int step(int k, int what) {
        if (what != 0 && what != 1) {
            return REFUSED;
        }
        if (k < 0 || k >= history.stepCount()) {
            return NONE;
        }
        return what == 0 ? history.stepNumber(k) : history.stepComing(k);
    }

    public int owner() {
        reader.open();
        long[] path = reader.readPath();
        if (!finishTape() || path == null) {
            return FAULT;
        }
        Generation top = history.top();
        for (int k = 0; k < top.size(); k++) {
            if (top.at(k).owns(path, 0)) {
                return top.at(k).number;
            }
        }
        return NONE;
    }

    public int compare() {
        reader.open();
        Version left = reader.readVersion();
        Version right = left == null ? null : reader.readVersion();
        if (!finishTape() || left == null || right == null) {
            return FAULT;
        }
        return left.against(right);
    }

    public int match() {
        reader.open();
        Version version = reader.readVersion();
        Range range = version == null ? null : reader.readRange();
        if (!finishTape() || version == null || range == null) {
            return FAULT;
        }
        return range.has(version) ? 1 : 0;
    }

    public int count(int what) {
        switch (what) {
            case 0:
                return index.size();
            case 1:
                return roots.size();
            case 2:
                return history.top().size();
            case 3:
                return history.size();
            case 4:
                return history.made();
            case 5:
                return tape.size();
            default:
                return REFUSED;
        }
    }

    /** Empties the tape; whether the reader had come to its end: words left over make any text a fault. */
    private boolean finishTape() {
        boolean whole = reader.isAtEnd();
        tape.cutTo(0);
        return whole;
    }

    private boolean isStillValid(Generation generation) {
        int places = 0;
        for (int k = 0; k < generation.size(); k++) {
            int place = index.placeOf(generation.at(k).number);
            if (place < 0) {
                return false;
            }
            places |= 1 << place;
        }
        return solver.isValid(places);
    }

    /** The best valid set as a generation, null if there is none. */
    private Generation bestGeneration() {
        if (!solver.hasSolution()) {
            return null;
        }
        int places = solver.solution();
        Release[] set = new Release[Index.MOST_NAMES];
        int size = 0;
        for (int place = 0; place < index.size() && size < set.length; place++) {
            if (isIn(places, place)) {
                set[size] = index.at(place);
                size++;
            }
        }
        return new Generation(set, size);
    }

    private static boolean isIn(int set, int member) {
        return (set >>> member & 1) != 0;
    }

    private static final class Tape {
        private static final int MOST = 400;

        private final char[] bytes = new char[MOST];
        private int size;

        int size() {
            return size;
        }

        /** A byte, or a blank beyond the end, where every word has ended. */
        char at(int place) {
            return place >= 0 && place < size ? bytes[place] : ' ';
        }

        boolean hasRoomFor(int more) {
            return size + more <= MOST;
        }

        void addFour(int four) {
            for (int shift = 24; shift >= 0 && size < MOST; shift -= 8) {
                bytes[size] = (char) (four >>> shift & 255);
                size++;
            }
        }

        void cutTo(int length) {
            size = length;
        }
    }

    /**
     * Reads the tape word by word. A read that finds what it is for goes on to the next word; one that does
     * not answers null (or NO_NAME, or -1), and then the whole text is a fault, wherever the reader stands.
     */
    private static final class Reader {
        private static final long NO_NAME = 0;
        private static final int MOST_OF_NUM = 9;
        /** Names and marks have at most so many bytes, which is what a long has room for. */
        private static final int MOST_OF_WORD = 8;
        private static final int MOST_OF_PATH = 20;

        private final Tape tape;
        /** The word that is next is from first to before behind; there is none if the two are the same. */
        private int first;
        private int behind;
        /** How far the word has been read, while a version is. */
        private int at;

        Reader(Tape tape) {
            this.tape = tape;
        }

        void open() {
            behind = 0;
            nextWord();
        }

        boolean isAtEnd() {
            return first == behind;
        }

        long readName() {
            if (behind - first < 1 || behind - first > MOST_OF_WORD || isClauseWord()) {
                return NO_NAME;
            }
            for (int i = first; i < behind; i++) {
                if (tape.at(i) < 'a' || tape.at(i) > 'z') {
                    return NO_NAME;
                }
            }
            long name = packed(first, behind);
            nextWord();
            return name;
        }

        Version readVersion() {
            return readVersionFrom(first);
        }

        Range readRange() {
            Range range = new Range();
            for (int i = 0; i < Range.MOST_CHOICES * Range.MOST_TESTS; i++) {
                Test test = readTest();
                if (test == null || !range.add(test)) {
                    return null;
                }
                if (wordIs("||")) {
                    nextWord();
                    if (!range.beginChoice()) {
                        return null;
                    }
                } else if (isAtEnd() || isClauseWord()) {
                    return range;
                }
            }
            return null;
        }

        /** A path as so many longs as the longest one takes, null if the word is none. */
        long[] readPath() {
            if (behind - first < 1 || behind - first > MOST_OF_PATH) {
                return null;
            }
            for (int i = first; i < behind; i++) {
                char c = tape.at(i);
                if (!isMarkByte(c) && c != '.' && c != '/') {
                    return null;
                }
            }
            long[] path = new long[Release.LONGS_OF_A_PATH];
            for (int i = 0; i < path.length; i++) {
                path[i] = packed(first + i * MOST_OF_WORD, behind);
            }
            nextWord();
            return path;
        }

        Release readRelease(int number) {
            long name = readName();
            Version version = name == NO_NAME ? null : readVersion();
            if (version == null) {
                return null;
            }
            Release made = new Release(number, name, version);
            boolean isGood = true;
            for (int i = 0; i < Release.MOST_CLAUSES && isGood && !isAtEnd(); i++) {
                Demands demands = wordIs("needs") ? made.needs : wordIs("breaks") ? made.breaks : null;
                boolean isOwns = wordIs("owns");
                nextWord();
                if (demands != null) {
                    long other = readName();
                    Range range = other == NO_NAME ? null : readRange();
                    isGood = range != null && demands.add(other, range);
                } else {
                    isGood = isOwns && made.addPath(readPath());
                }
            }
            return isGood ? made : null;
        }

        private Test readTest() {
            if (wordIs("*")) {
                nextWord();
                return new Test(null, false, null, false);
            }
            char sign = tape.at(first);
            boolean hasSign = sign == '<' || sign == '>' || sign == '=' || sign == '^' || sign == '~';
            boolean orSame = (sign == '<' || sign == '>') && tape.at(first + 1) == '=';
            Version version = readVersionFrom(first + (hasSign ? 1 : 0) + (orSame ? 1 : 0));
            if (version == null) {
                return null;
            }
            if (sign == '<') {
                return new Test(null, false, version, orSame);
            }
            if (sign == '>') {
                return new Test(version, orSame, null, false);
            }
            if (sign == '^') {
                return new Test(version, true, version.nextBreaking(), false);
            }
            if (sign == '~') {
                return new Test(version, true, version.nextMinor(), false);
            }
            return new Test(version, true, version, true);
        }

        private Version readVersionFrom(int start) {
            at = start;
            long major = takeNumber();
            long minor = major >= 0 && takes('.') ? takeNumber() : -1;
            long patch = minor >= 0 && takes('.') ? takeNumber() : -1;
            if (patch < 0) {
                return null;
            }
            Version version = new Version(major, minor, patch);
            for (int i = 0; i < Version.MOST_MARKS && at < behind; i++) {
                long mark = takes(i == 0 ? '-' : '.') ? takeMark() : -1;
                if (mark < 0) {
                    return null;
                }
                version.setMark(i, mark);
            }
            if (at < behind) {
                return null;
            }
            nextWord();
            return version;
        }

        private boolean takes(char wanted) {
            boolean there = at < behind && tape.at(at) == wanted;
            if (there) {
                at++;
            }
            return there;
        }

        private long takeNumber() {
            int start = at;
            while (at < behind && at - start <= MOST_OF_NUM && isDigit(tape.at(at))) {
                at++;
            }
            return at - start > MOST_OF_NUM ? -1 : numberAt(start, at);
        }

        /**
         * A mark as one long, by which marks are in the order of precedence: a text's first byte stands so high
         * that every number is below it.
         */
        private long takeMark() {
            int start = at;
            boolean digitsAlone = true;
            while (at < behind && at - start <= MOST_OF_WORD && isMarkByte(tape.at(at))) {
                digitsAlone = digitsAlone && isDigit(tape.at(at));
                at++;
            }
            if (at == start || at - start > MOST_OF_WORD) {
                return -1;
            }
            return digitsAlone ? numberAt(start, at) : packed(start, at);
        }

        /** The number that the digits from start to before stop are, -1 if there are none or a needless 0. */
        private long numberAt(int start, int stop) {
            if (start == stop || stop - start > 1 && tape.at(start) == '0') {
                return -1;
            }
            long number = 0;
            for (int i = start; i < stop; i++) {
                number = number * 10 + (tape.at(i) - '0');
            }
            return number;
        }

        /**
         * Eight bytes from start on as one long, zeros where the text has stopped, the first the highest, so that
         * longs are in the order of the texts.
         */
        private long packed(int start, int stop) {
            long all = 0;
            for (int i = start; i < start + MOST_OF_WORD; i++) {
                all = all << 8 | (i < stop ? tape.at(i) : 0);
            }
            return all;
        }

        private void nextWord() {
            first = behind;
            while (first < tape.size() && tape.at(first) == ' ') {
                first++;
            }
            behind = first;
            while (behind < tape.size() && tape.at(behind) != ' ') {
                behind++;
            }
        }

        private boolean isClauseWord() {
            return wordIs("needs") || wordIs("breaks") || wordIs("owns");
        }

        private boolean wordIs(String text) {
            if (behind - first != text.length()) {
                return false;
            }
            for (int i = 0; i < text.length(); i++) {
                if (tape.at(first + i) != text.charAt(i)) {
                    return false;
                }
            }
            return true;
        }

        private static boolean isDigit(char c) {
            return c >= '0' && c <= '9';
        }

        private static boolean isMarkByte(char c) {
            return c >= '0' && c <= '9' || c >= 'a' && c <= 'z' || c >= 'A' && c <= 'Z' || c == '-';
        }
    }

    /** A version as a row of longs: the first at which two rows differ tells which version is below. */
    private static final class Version {
        private static final int MOST_MARKS = 4;
        private static final int FIRST_MARK = 3;
        /** In the place of the first mark: no mark is as high, so a version without any is above. */
        private static final long WITHOUT_MARKS = 0x7fffffffffffffffL;
        /** Below every mark, so of two versions the one with fewer marks is below. */
        private static final long NO_MARK = -1;

        private final long[] keys = new long[FIRST_MARK + MOST_MARKS];

        Version(long major, long minor, long patch) {
            keys[0] = major;
            keys[1] = minor;
            keys[2] = patch;
            keys[FIRST_MARK] = WITHOUT_MARKS;
            for (int i = FIRST_MARK + 1; i < keys.length; i++) {
                keys[i] = NO_MARK;
            }
        }

        void setMark(int i, long mark) {
            if (i >= 0 && i < MOST_MARKS) {
                keys[FIRST_MARK + i] = mark;
            }
        }

        /** -1, 0 or 1: this one is below the other by precedence, the same, above. */
        int against(Version other) {
            for (int i = 0; i < keys.length; i++) {
                if (keys[i] != other.keys[i]) {
                    return keys[i] < other.keys[i] ? -1 : 1;
                }
            }
            return 0;
        }

        /** The first version that ^ leaves out. */
        Version nextBreaking() {
            if (keys[0] != 0) {
                return new Version(keys[0] + 1, 0, 0);
            }
            return keys[1] != 0 ? nextMinor() : new Version(0, 0, keys[2] + 1);
        }

        /** The first version that ~ leaves out. */
        Version nextMinor() {
            return new Version(keys[0], keys[1] + 1, 0);
        }
    }

    /** A test as what lies between two versions; a null one is no bound. */
    private static final class Test {
        private final Version low;
        private final boolean withLow;
        private final Version high;
        private final boolean withHigh;

        Test(Version low, boolean withLow, Version high, boolean withHigh) {
            this.low = low;
            this.withLow = withLow;
            this.high = high;
            this.withHigh = withHigh;
        }

        boolean holdsFor(Version version) {
            int fromLow = low == null ? 1 : version.against(low);
            int fromHigh = high == null ? -1 : version.against(high);
            return (fromLow > 0 || fromLow == 0 && withLow) && (fromHigh < 0 || fromHigh == 0 && withHigh);
        }
    }

    private static final class Range {
        private static final int MOST_CHOICES = 4;
        private static final int MOST_TESTS = 4;

        /** The tests of choice c begin at c * MOST_TESTS, and there are sizes[c]. */
        private final Test[] tests = new Test[MOST_CHOICES * MOST_TESTS];
        private final int[] sizes = new int[MOST_CHOICES];
        private int choices = 1;

        boolean beginChoice() {
            if (choices == MOST_CHOICES) {
                return false;
            }
            choices++;
            return true;
        }

        boolean add(Test test) {
            int choice = choices - 1;
            if (sizes[choice] == MOST_TESTS) {
                return false;
            }
            tests[choice * MOST_TESTS + sizes[choice]] = test;
            sizes[choice]++;
            return true;
        }

        boolean has(Version version) {
            for (int choice = 0; choice < choices; choice++) {
                boolean all = true;
                for (int i = 0; i < sizes[choice] && all; i++) {
                    all = tests[choice * MOST_TESTS + i].holdsFor(version);
                }
                if (all) {
                    return true;
                }
            }
            return false;
        }
    }

    /** Names with a range each: the needs or breaks of a release, or the roots. */
    private static final class Demands {
        private final long[] names;
        private final Range[] ranges;
        private int size;

        Demands(int most) {
            names = new long[most];
            ranges = new Range[most];
        }

        int size() {
            return size;
        }

        long nameAt(int place) {
            return names[place];
        }

        Range rangeAt(int place) {
            return ranges[place];
        }

        /** Where the name stands, -1 if it does not. */
        int placeOf(long name) {
            for (int place = 0; place < size; place++) {
                if (names[place] == name) {
                    return place;
                }
            }
            return -1;
        }

        /** Adds one, also of a name that is there: a release may need a name twice. False if all places are taken. */
        boolean add(long name, Range range) {
            if (size == names.length) {
                return false;
            }
            names[size] = name;
            ranges[size] = range;
            size++;
            return true;
        }

        /** Adds one in place of the one of this name. False if it is new and all places are taken. */
        boolean put(long name, Range range) {
            int place = placeOf(name);
            if (place < 0) {
                return add(name, range);
            }
            ranges[place] = range;
            return true;
        }

        void remove(int place) {
            size--;
            for (int i = place; i < size; i++) {
                names[i] = names[i + 1];
                ranges[i] = ranges[i + 1];
            }
            ranges[size] = null;
        }
    }

    /** Nothing of a release changes once it has been read, so generations and the index may share it. */
    private static final class Release {
        private static final int MOST_NEEDS = 6;
        private static final int MOST_BREAKS = 3;
        private static final int MOST_PATHS = 4;
        private static final int MOST_CLAUSES = MOST_NEEDS + MOST_BREAKS + MOST_PATHS;
        /** Of eight bytes each, for the twenty that a path has at most. */
        private static final int LONGS_OF_A_PATH = 3;

        private final int number;
        private final long name;
        private final Version version;
        private final Demands needs;
        private final Demands breaks;
        /** The longs of path p begin at p * LONGS_OF_A_PATH. */
        private final long[] paths;
        private int pathCount;

        Release(int number, long name, Version version) {
            this.number = number;
            this.name = name;
            this.version = version;
            needs = new Demands(MOST_NEEDS);
            breaks = new Demands(MOST_BREAKS);
            paths = new long[MOST_PATHS * LONGS_OF_A_PATH];
        }

        boolean addPath(long[] path) {
            if (path == null || pathCount == MOST_PATHS) {
                return false;
            }
            System.arraycopy(path, 0, paths, pathCount * LONGS_OF_A_PATH, LONGS_OF_A_PATH);
            pathCount++;
            return true;
        }

        /** Whether it owns the path whose longs begin at a place of a row. */
        boolean owns(long[] row, int from) {
            for (int i = 0; i < pathCount; i++) {
                boolean isSame = true;
                for (int j = 0; j < LONGS_OF_A_PATH && isSame; j++) {
                    isSame = paths[i * LONGS_OF_A_PATH + j] == row[from + j];
                }
                if (isSame) {
                    return true;
                }
            }
            return false;
        }

        boolean sharesPathWith(Release other) {
            for (int i = 0; i < pathCount; i++) {
                if (other.owns(paths, i * LONGS_OF_A_PATH)) {
                    return true;
                }
            }
            return false;
        }

        /** Below 0 if this one stands before the other in the index, 0 if both can't be there, else above 0. */
        int orderAgainst(Release other) {
            return name != other.name ? Long.compare(name, other.name) : other.version.against(version);
        }
    }

    /**
     * The releases by names, of a name the highest version first: just the order in which the solver has to try
     * them.
     */
    private static final class Index {
        private static final int MOST = 32;
        private static final int MOST_NAMES = 8;
        private static final int MOST_OF_A_NAME = 5;

        private final Release[] rows = new Release[MOST];
        private int size;
        private int nextNumber;

        int size() {
            return size;
        }

        int nextNumber() {
            return nextNumber;
        }

        Release at(int place) {
            return rows[place];
        }

        /** Where the release with this number stands, -1 if it does not. */
        int placeOf(int number) {
            for (int place = 0; place < size; place++) {
                if (rows[place].number == number) {
                    return place;
                }
            }
            return -1;
        }

        boolean hasOneLike(Release made) {
            for (int place = 0; place < size; place++) {
                if (rows[place].orderAgainst(made) == 0) {
                    return true;
                }
            }
            return false;
        }

        boolean hasRoomFor(Release made) {
            int names = 0;
            int alike = 0;
            for (int place = 0; place < size; place++) {
                if (beginsName(place)) {
                    names++;
                }
                if (rows[place].name == made.name) {
                    alike++;
                }
            }
            return size < MOST && alike < MOST_OF_A_NAME && (alike > 0 || names < MOST_NAMES);
        }

        boolean beginsName(int place) {
            return place == 0 || rows[place - 1].name != rows[place].name;
        }

        void insert(Release made) {
            int place = size;
            while (place > 0 && made.orderAgainst(rows[place - 1]) < 0) {
                rows[place] = rows[place - 1];
                place--;
            }
            rows[place] = made;
            size++;
            nextNumber++;
        }

        void remove(int place) {
            size--;
            for (int i = place; i < size; i++) {
                rows[i] = rows[i + 1];
            }
            rows[size] = null;
        }
    }

    /**
     * Finds the best valid set. Sets of releases are masks of their places in the index; the releases of one name
     * are a group, and sets of groups are masks too. What it found is kept until the index or the roots change.
     */
    private static final class Solver {
        private final Index index;
        private final Demands roots;
        private final int[] members = new int[Index.MOST_NAMES];
        private final long[] groupNames = new long[Index.MOST_NAMES];
        private int groups;
        /** Which releases can't be in one set with this one; it may be its own rival. */
        private final int[] rivals = new int[Index.MOST];
        /** Which groups this one needs one of. */
        private final int[] needed = new int[Index.MOST];
        private int rootGroups;
        /** The releases that nothing rules out ahead of the search. */
        private int open;
        private boolean rootsAreListed;
        private boolean isLearnt;
        private boolean isSolved;
        private int found;

        Solver(Index index, Demands roots) {
            this.index = index;
            this.roots = roots;
        }

        void forget() {
            isLearnt = false;
        }

        /** Whether there is a valid set; this, solution and isValid speak of what was learnt last. */
        boolean hasSolution() {
            return isSolved;
        }

        int solution() {
            return found;
        }

        /** Whether a set, with at most one release of each name, is valid. */
        boolean isValid(int set) {
            if (!rootsAreListed || (set & ~open) != 0) {
                return false;
            }
            for (int place = 0; place < index.size(); place++) {
                if (isIn(set, place) && (rivals[place] & set) != 0) {
                    return false;
                }
            }
            return settled(set) == set && meetsRoots(set);
        }

        /** Finds the best valid set of the index and roots as they are, if that is not known yet. */
        void learn() {
            if (isLearnt) {
                return;
            }
            learnGroups();
            for (int place = 0; place < index.size(); place++) {
                learnNeeds(place);
                learnBreaks(place);
            }
            for (int place = 0; place < index.size(); place++) {
                if (isIn(rivals[place], place)) {
                    open &= ~(1 << place);
                }
            }
            learnRoots();
            found = 0;
            isSolved = rootsAreListed && choose(0, 0, open);
            isLearnt = true;
        }

        private void learnGroups() {
            groups = 0;
            open = 0;
            for (int place = 0; place < index.size(); place++) {
                if (index.beginsName(place) && groups < Index.MOST_NAMES) {
                    groupNames[groups] = index.at(place).name;
                    members[groups] = 0;
                    groups++;
                }
                members[groups - 1] |= 1 << place;
                open |= 1 << place;
                rivals[place] = 0;
                needed[place] = 0;
            }
        }

        private int groupOf(long name) {
            for (int group = 0; group < groups; group++) {
                if (groupNames[group] == name) {
                    return group;
                }
            }
            return -1;
        }

        private void learnNeeds(int place) {
            Demands needs = index.at(place).needs;
            for (int i = 0; i < needs.size(); i++) {
                int group = groupOf(needs.nameAt(i));
                if (group < 0) {
                    open &= ~(1 << place);
                } else {
                    needed[place] |= 1 << group;
                    addRivals(place, members[group] & ~inRange(group, needs.rangeAt(i)));
                }
            }
            int own = groupOf(index.at(place).name);
            if (own >= 0) {
                addRivals(place, members[own] & ~(1 << place));
            }
        }

        private void learnBreaks(int place) {
            Demands breaks = index.at(place).breaks;
            for (int i = 0; i < breaks.size(); i++) {
                int group = groupOf(breaks.nameAt(i));
                if (group >= 0) {
                    addRivals(place, inRange(group, breaks.rangeAt(i)));
                }
            }
        }

        private void learnRoots() {
            rootGroups = 0;
            rootsAreListed = true;
            for (int i = 0; i < roots.size(); i++) {
                int group = groupOf(roots.nameAt(i));
                if (group < 0) {
                    rootsAreListed = false;
                } else {
                    rootGroups |= 1 << group;
                    open &= ~members[group] | inRange(group, roots.rangeAt(i));
                }
            }
        }

        private int inRange(int group, Range range) {
            int in = 0;
            for (int place = 0; place < index.size(); place++) {
                if (isIn(members[group], place) && range.has(index.at(place).version)) {
                    in |= 1 << place;
                }
            }
            return in;
        }

        private void addRivals(int place, int others) {
            rivals[place] |= others;
            for (int other = 0; other < index.size(); other++) {
                if (isIn(others, other)) {
                    rivals[other] |= 1 << place;
                }
            }
        }

        /**
         * Decides on this group and those behind it, the better choice first, so that the first valid set found is
         * the best. Goes as deep as there are groups.
         */
        private boolean choose(int group, int taken, int candidates) {
            int left = settled(candidates);
            if ((taken & ~left) != 0 || !meetsRoots(left)) {
                return false;
            }
            if (group >= groups) {
                found = taken;
                return true;
            }
            if (choose(group + 1, taken, left & ~members[group])) {
                return true;
            }
            for (int place = 0; place < index.size(); place++) {
                if (isIn(members[group] & left, place)
                        && choose(group + 1, taken | 1 << place, left & ~rivals[place])) {
                    return true;
                }
            }
            return false;
        }

        /**
         * The candidates without those that are in no valid set of candidates alone. If they are no rivals and none
         * goes, all their needs are met and all are reached.
         */
        private int settled(int candidates) {
            int left = candidates;
            for (int round = 0; round <= Index.MOST; round++) {
                int kept = reached(withNeedsMet(left));
                if (kept == left) {
                    return left;
                }
                left = kept;
            }
            return left;
        }

        private int withNeedsMet(int candidates) {
            int left = candidates;
            for (int place = 0; place < index.size(); place++) {
                if (isIn(left, place) && !canMeetNeeds(place, left)) {
                    left &= ~(1 << place);
                }
            }
            return left;
        }

        private boolean canMeetNeeds(int place, int candidates) {
            int friends = candidates & ~rivals[place];
            for (int group = 0; group < groups; group++) {
                if (isIn(needed[place], group) && (members[group] & friends) == 0) {
                    return false;
                }
            }
            return true;
        }

        private int reached(int candidates) {
            int reachedGroups = rootGroups;
            int all = 0;
            for (int round = 0; round <= groups; round++) {
                int before = all;
                all = candidates & membersOf(reachedGroups);
                if (all == before) {
                    return all;
                }
                for (int place = 0; place < index.size(); place++) {
                    if (isIn(all, place)) {
                        reachedGroups |= needed[place];
                    }
                }
            }
            return all;
        }

        private int membersOf(int someGroups) {
            int all = 0;
            for (int group = 0; group < groups; group++) {
                if (isIn(someGroups, group)) {
                    all |= members[group];
                }
            }
            return all;
        }

        private boolean meetsRoots(int candidates) {
            for (int group = 0; group < groups; group++) {
                if (isIn(rootGroups, group) && (members[group] & candidates) == 0) {
                    return false;
                }
            }
            return true;
        }
    }

    /** A set of releases in its order. It never changes, so several generations may be the same object. */
    private static final class Generation {
        private final Release[] order;
        private final int[] circles;
        private final int size;

        /** Of a set that is given by names. */
        Generation(Release[] set, int size) {
            this.size = size;
            order = new Release[size];
            circles = new int[size];
            int[] reach = reachOf(set, size);
            int placed = 0;
            int done = 0;
            for (int circle = 0; circle < size && done < size; circle++) {
                int mates = firstReadyCircle(reach, size, placed);
                for (int i = 0; i < size; i++) {
                    if (isIn(mates, i)) {
                        order[done] = set[i];
                        circles[done] = circle;
                        done++;
                    }
                }
                placed |= mates;
            }
        }

        int size() {
            return size;
        }

        Release at(int k) {
            return order[k];
        }

        int circleAt(int k) {
            return circles[k];
        }

        boolean has(int number) {
            for (int k = 0; k < size; k++) {
                if (order[k].number == number) {
                    return true;
                }
            }
            return false;
        }

        boolean hasSharedPath() {
            for (int i = 0; i < size; i++) {
                for (int j = 0; j < i; j++) {
                    if (order[i].sharesPathWith(order[j])) {
                        return true;
                    }
                }
            }
            return false;
        }

        /** For each of the set a mask of those that it needs, by way of others too. */
        private static int[] reachOf(Release[] set, int size) {
            int[] reach = new int[size];
            for (int i = 0; i < size; i++) {
                for (int j = 0; j < size; j++) {
                    if (set[i].needs.placeOf(set[j].name) >= 0) {
                        reach[i] |= 1 << j;
                    }
                }
            }
            for (int by = 0; by < size; by++) {
                for (int i = 0; i < size; i++) {
                    if (isIn(reach[i], by)) {
                        reach[i] |= reach[by];
                    }
                }
            }
            return reach;
        }

        /** Of the circles that need nothing but what is placed and themselves the one with the least name. */
        private static int firstReadyCircle(int[] reach, int size, int placed) {
            for (int i = 0; i < size; i++) {
                int circle = circleOf(reach, size, i);
                if (!isIn(placed, i) && (reach[i] & ~placed & ~circle) == 0) {
                    return circle;
                }
            }
            return 0;
        }

        private static int circleOf(int[] reach, int size, int member) {
            int circle = 1 << member;
            for (int i = 0; i < size; i++) {
                if (isIn(reach[member], i) && isIn(reach[i], member)) {
                    circle |= 1 << i;
                }
            }
            return circle;
        }
    }

    /** The generations that are kept, the oldest first and the current one last, and the latest steps. */
    private static final class History {
        private static final int MOST = 4;
        private static final int MOST_STEPS = 2 * Index.MOST_NAMES;

        private final Generation[] kept = new Generation[MOST];
        private int size;
        private int made;
        private final int[] stepNumbers = new int[MOST_STEPS];
        private final int[] stepComings = new int[MOST_STEPS];
        private int stepCount;

        History() {
            kept[0] = new Generation(new Release[0], 0);
            size = 1;
        }

        int size() {
            return size;
        }

        int made() {
            return made;
        }

        Generation top() {
            return kept[size - 1];
        }

        boolean hasEarlier() {
            return size > 1;
        }

        void put(Generation next) {
            setSteps(top(), next);
            if (size == MOST) {
                for (int i = 1; i < MOST; i++) {
                    kept[i - 1] = kept[i];
                }
                size--;
            }
            kept[size] = next;
            size++;
            made++;
        }

        void takeBack() {
            if (hasEarlier()) {
                setSteps(top(), kept[size - 2]);
                size--;
                kept[size] = null;
            }
        }

        int stepCount() {
            return stepCount;
        }

        int stepNumber(int k) {
            return stepNumbers[k];
        }

        int stepComing(int k) {
            return stepComings[k];
        }

        private void setSteps(Generation from, Generation to) {
            stepCount = 0;
            for (int k = from.size() - 1; k >= 0; k--) {
                if (!to.has(from.at(k).number)) {
                    addStep(from.at(k).number, 0);
                }
            }
            for (int k = 0; k < to.size(); k++) {
                if (!from.has(to.at(k).number)) {
                    addStep(to.at(k).number, 1);
                }
            }
        }

        private void addStep(int number, int coming) {
            if (stepCount < MOST_STEPS) {
                stepNumbers[stepCount] = number;
                stepComings[stepCount] = coming;
                stepCount++;
            }
        }
    }
}
