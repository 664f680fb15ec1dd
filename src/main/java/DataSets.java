/**
 * Data sets on a volume of tracks, with extents, members, attributes and names held by jobs.
 *
 * Faults are answered by negative numbers in the order in which the document lists them; no call throws.
 */
public final class DataSets {
    public static final int NONE = -1;

    private static final int NO_SUCH_SET = -2;
    private static final int NAME_IS_THERE = -3;
    private static final int NOT_SO = -4;
    private static final int IN_USE = -5;
    private static final int DIRECTORY_FULL = -6;
    private static final int NO_FURTHER = -7;
    private static final int NO_SPACE = -8;
    private static final int GUARDED = -9;

    private static final int MOST_TRACKS = 500;
    private static final int MOST_SETS = 60;
    private static final int MOST_EXTENTS = 16;
    private static final int MOST_MEMBERS = 12;
    private static final int NAMES = 100;
    private static final int JOBS = 20;
    private static final int SOURCES = 3;
    private static final int ATTRIBUTES = 10;

    private final Volume volume;
    /** Set number n stands at n - 1; null once it is removed, as numbers are never given again. */
    private final DataSet[] sets;
    /** Null for a name that no job has asked for yet, so that unused names cost nothing. */
    private final Line[] lines;
    private int made;

    public DataSets(int tracks) {
        volume = new Volume(tracks);
        sets = new DataSet[MOST_SETS];
        lines = new Line[NAMES];
        made = 0;
    }

    public int make(int name, int first, int further) {
        if (!isName(name) || first < 1 || first > MOST_TRACKS || further < 0 || further > MOST_TRACKS) {
            return NOT_SO;
        }
        if (numberOf(name) != 0) {
            return NAME_IS_THERE;
        }
        int start = volume.firstRun(first);
        if (start == NONE) {
            return NO_SPACE;
        }
        if (made >= MOST_SETS) {
            return NONE;
        }
        DataSet s = new DataSet(name, further);
        volume.take(start, first);
        s.extents.add(start, first);
        sets[made] = s;
        made++;
        return made;
    }

    public int extend(int set) {
        DataSet s = setOf(set);
        if (s == null) {
            return NO_SUCH_SET;
        }
        if (s.extents.isFull() || s.further == 0) {
            return NO_FURTHER;
        }
        int start = volume.firstRun(s.further);
        if (start == NONE) {
            return NO_SPACE;
        }
        volume.take(start, s.further);
        s.extents.add(start, s.further);
        return s.extents.count;
    }

    public int find(int name) {
        return numberOf(name);
    }

    public int member(int set, int name, int n) {
        DataSet s = setOf(set);
        if (s == null) {
            return NO_SUCH_SET;
        }
        if (!isName(name) || n < 0 || n > MOST_TRACKS) {
            return NOT_SO;
        }
        if (!s.directory.hasRoomFor(name)) {
            return DIRECTORY_FULL;
        }
        if (s.directory.given + n > s.extents.tracks()) {
            return NO_SPACE;
        }
        s.directory.put(name, n);
        return 1;
    }

    public int track(int set, int name) {
        DataSet s = setOf(set);
        if (s == null) {
            return NONE;
        }
        int position = s.directory.startOf(name);
        return position == NONE ? NONE : s.extents.onVolume(position);
    }

    public int remove(int name, long day) {
        int number = numberOf(name);
        DataSet s = setOf(number);
        if (s == null) {
            return 0;
        }
        if (isInUse(name)) {
            return IN_USE;
        }
        if (s.guardDay > day) {
            return GUARDED;
        }
        s.extents.cutTo(0, volume);
        sets[number - 1] = null;
        return 1;
    }

    public int guard(int set, long day) {
        DataSet s = setOf(set);
        if (s == null) {
            return NO_SUCH_SET;
        }
        s.guardDay = day;
        return 1;
    }

    public int rename(int name, int to) {
        DataSet s = setOf(numberOf(name));
        if (s == null) {
            return 0;
        }
        if (!isName(to)) {
            return NOT_SO;
        }
        if (numberOf(to) != 0) {
            return NAME_IS_THERE;
        }
        if (isInUse(name) || isInUse(to)) {
            return IN_USE;
        }
        s.name = to;
        return 1;
    }

    public int attribute(int set, int source, int what, int v) {
        DataSet s = setOf(set);
        if (s == null) {
            return NO_SUCH_SET;
        }
        if (source < 0 || source >= SOURCES || !isAttribute(what)) {
            return NOT_SO;
        }
        s.attributes.tell(source, what, v);
        return 1;
    }

    public int merged(int set, int what) {
        DataSet s = setOf(set);
        if (s == null || !isAttribute(what)) {
            return NONE;
        }
        return s.attributes.firstTold(what);
    }

    public int enqueue(int job, int name, boolean alone) {
        if (!isJob(job) || !isName(name)) {
            return NOT_SO;
        }
        if (lines[name] == null) {
            lines[name] = new Line();
        }
        return lines[name].ask(job, alone);
    }

    public int free(int job) {
        if (!isJob(job)) {
            return NOT_SO;
        }
        int held = 0;
        for (int name = 0; name < NAMES; name++) {
            if (lines[name] != null) {
                held += lines[name].drop(job);
            }
        }
        return held;
    }

    public int compress(int set) {
        DataSet s = setOf(set);
        return s == null ? NO_SUCH_SET : s.directory.closeGaps();
    }

    public int release(int set) {
        DataSet s = setOf(set);
        if (s == null) {
            return NO_SUCH_SET;
        }
        return s.extents.cutTo(Math.max(1, s.directory.given), volume);
    }

    public int space(int what) {
        switch (what) {
            case 0:
                return volume.freeTracks();
            case 1:
                return volume.longestRun();
            case 2:
                return countSets();
            case 3:
                return countExtents();
            case 4:
                return countHoldings();
            case 5:
                return countWaiting();
            default:
                return NONE;
        }
    }

    public int extent(int set, int i, int what) {
        DataSet s = setOf(set);
        if (s == null || i < 0 || i >= s.extents.count) {
            return NONE;
        }
        switch (what) {
            case 0:
                return s.extents.firsts[i];
            case 1:
                return s.extents.lengths[i];
            default:
                return NONE;
        }
    }

    private static boolean isName(int name) {
        return name >= 0 && name < NAMES;
    }

    private static boolean isJob(int job) {
        return job >= 1 && job <= JOBS;
    }

    private static boolean isAttribute(int what) {
        return what >= 0 && what < ATTRIBUTES;
    }

    private DataSet setOf(int number) {
        return number >= 1 && number <= MOST_SETS ? sets[number - 1] : null;
    }

    private int numberOf(int name) {
        for (int i = 0; i < MOST_SETS; i++) {
            if (sets[i] != null && sets[i].name == name) {
                return i + 1;
            }
        }
        return 0;
    }

    private boolean isInUse(int name) {
        return isName(name) && lines[name] != null && lines[name].size > 0;
    }

    private int countSets() {
        int there = 0;
        for (int i = 0; i < MOST_SETS; i++) {
            if (sets[i] != null) {
                there++;
            }
        }
        return there;
    }

    private int countExtents() {
        int extents = 0;
        for (int i = 0; i < MOST_SETS; i++) {
            if (sets[i] != null) {
                extents += sets[i].extents.count;
            }
        }
        return extents;
    }

    private int countHoldings() {
        int holdings = 0;
        for (int name = 0; name < NAMES; name++) {
            if (lines[name] != null) {
                holdings += lines[name].holders;
            }
        }
        return holdings;
    }

    private int countWaiting() {
        int waiting = 0;
        for (int name = 0; name < NAMES; name++) {
            if (lines[name] != null) {
                waiting += lines[name].size - lines[name].holders;
            }
        }
        return waiting;
    }

    /** Which tracks are taken. */
    private static final class Volume {
        private final boolean[] taken;

        Volume(int tracks) {
            taken = new boolean[Math.max(1, Math.min(tracks, MOST_TRACKS))];
        }

        /** The first track of the first n free ones in a row, NONE if there are no such. */
        int firstRun(int n) {
            int run = 0;
            for (int t = 0; t < taken.length; t++) {
                run = taken[t] ? 0 : run + 1;
                if (run == n) {
                    return t - n + 1;
                }
            }
            return NONE;
        }

        int longestRun() {
            int longest = 0;
            int run = 0;
            for (int t = 0; t < taken.length; t++) {
                run = taken[t] ? 0 : run + 1;
                longest = Math.max(longest, run);
            }
            return longest;
        }

        int freeTracks() {
            int count = 0;
            for (int t = 0; t < taken.length; t++) {
                if (!taken[t]) {
                    count++;
                }
            }
            return count;
        }

        void take(int first, int n) {
            mark(first, n, true);
        }

        void giveBack(int first, int n) {
            mark(first, n, false);
        }

        private void mark(int first, int n, boolean asTaken) {
            int end = Math.min(first + n, taken.length);
            for (int t = Math.max(first, 0); t < end; t++) {
                taken[t] = asTaken;
            }
        }
    }

    /** What belongs to one set. */
    private static final class DataSet {
        private int name;
        private final int further;
        private long guardDay;
        private final Extents extents;
        private final Directory directory;
        private final Attributes attributes;

        DataSet(int name, int further) {
            this.name = name;
            this.further = further;
            guardDay = Long.MIN_VALUE;
            extents = new Extents();
            directory = new Directory();
            attributes = new Attributes();
        }
    }

    /** A set's extents, in the order in which they came. */
    private static final class Extents {
        private final int[] firsts;
        private final int[] lengths;
        private int count;

        Extents() {
            firsts = new int[MOST_EXTENTS];
            lengths = new int[MOST_EXTENTS];
            count = 0;
        }

        boolean isFull() {
            return count >= MOST_EXTENTS;
        }

        void add(int first, int length) {
            if (isFull()) {
                return;
            }
            firsts[count] = first;
            lengths[count] = length;
            count++;
        }

        int tracks() {
            int sum = 0;
            for (int i = 0; i < count; i++) {
                sum += lengths[i];
            }
            return sum;
        }

        /** The volume's track of a position counted through the extents. */
        int onVolume(int position) {
            int left = position;
            for (int i = 0; i < count; i++) {
                if (left < lengths[i]) {
                    return firsts[i] + left;
                }
                left -= lengths[i];
            }
            return NONE;
        }

        /** Keeps the first tracks alone and gives the others back: how many those are. */
        int cutTo(int keep, Volume volume) {
            int left = keep;
            int freed = 0;
            int kept = 0;
            for (int i = 0; i < count; i++) {
                int stay = Math.min(left, lengths[i]);
                int go = lengths[i] - stay;
                volume.giveBack(firsts[i] + stay, go);
                lengths[i] = stay;
                left -= stay;
                freed += go;
                if (stay > 0) {
                    kept++;
                }
            }
            count = kept;
            return freed;
        }
    }

    /**
     * A set's members, kept in the order in which they lie: a member that is made again
     * goes to the end, as its new tracks are behind all others.
     */
    private static final class Directory {
        private final int[] names;
        private final int[] starts;
        private final int[] lengths;
        private int count;
        /** Tracks given to members, or lost, since the beginning or the latest compressing. */
        private int given;

        Directory() {
            names = new int[MOST_MEMBERS];
            starts = new int[MOST_MEMBERS];
            lengths = new int[MOST_MEMBERS];
            count = 0;
            given = 0;
        }

        boolean hasRoomFor(int name) {
            return count < MOST_MEMBERS || indexOf(name) != NONE;
        }

        void put(int name, int n) {
            drop(name);
            if (count >= MOST_MEMBERS) {
                return;
            }
            names[count] = name;
            starts[count] = given;
            lengths[count] = n;
            count++;
            given += n;
        }

        /** The position of a member's first track, NONE if it has none. */
        int startOf(int name) {
            int at = indexOf(name);
            return at == NONE || lengths[at] == 0 ? NONE : starts[at];
        }

        /** Moves members to the set's beginning: how many tracks are won. */
        int closeGaps() {
            int before = given;
            given = 0;
            for (int i = 0; i < count; i++) {
                starts[i] = given;
                given += lengths[i];
            }
            return before - given;
        }

        private int indexOf(int name) {
            for (int i = 0; i < count; i++) {
                if (names[i] == name) {
                    return i;
                }
            }
            return NONE;
        }

        private void drop(int name) {
            int at = indexOf(name);
            if (at == NONE) {
                return;
            }
            for (int i = at; i + 1 < count; i++) {
                names[i] = names[i + 1];
                starts[i] = starts[i + 1];
                lengths[i] = lengths[i + 1];
            }
            count--;
        }
    }

    /** What each source tells of a set; whether it does is kept apart, as any value may be told. */
    private static final class Attributes {
        private final boolean[] told;
        private final int[] values;

        Attributes() {
            told = new boolean[SOURCES * ATTRIBUTES];
            values = new int[SOURCES * ATTRIBUTES];
        }

        void tell(int source, int what, int v) {
            int at = source * ATTRIBUTES + what;
            if (at < 0 || at >= told.length) {
                return;
            }
            told[at] = true;
            values[at] = v;
        }

        int firstTold(int what) {
            if (!isAttribute(what)) {
                return NONE;
            }
            for (int source = 0; source < SOURCES; source++) {
                int at = source * ATTRIBUTES + what;
                if (told[at]) {
                    return values[at];
                }
            }
            return NONE;
        }
    }

    /**
     * The jobs that hold one name or wait for it, in the order in which they asked.
     * Names are got in that order, so those who hold stand before those who wait.
     */
    private static final class Line {
        private final int[] jobs;
        private final boolean[] alone;
        private int size;
        private int holders;

        Line() {
            jobs = new int[JOBS];
            alone = new boolean[JOBS];
            size = 0;
            holders = 0;
        }

        /** 1 the job has the name, 0 it waits, IN_USE it stood here already. */
        int ask(int job, boolean asksAlone) {
            if (placeOf(job) != NONE || size >= JOBS) {
                return IN_USE;
            }
            jobs[size] = job;
            alone[size] = asksAlone;
            size++;
            admit();
            return holders == size ? 1 : 0;
        }

        /** The job goes, and who can now have the name gets it: 1 if the job held it, else 0. */
        int drop(int job) {
            int at = placeOf(job);
            if (at == NONE) {
                return 0;
            }
            int held = at < holders ? 1 : 0;
            for (int i = at; i + 1 < size; i++) {
                jobs[i] = jobs[i + 1];
                alone[i] = alone[i + 1];
            }
            size--;
            holders -= held;
            admit();
            return held;
        }

        private void admit() {
            while (holders < size && canHold(alone[holders])) {
                holders++;
            }
        }

        /** One who holds alone is the only one, so the first one speaks for all who hold. */
        private boolean canHold(boolean asksAlone) {
            return holders == 0 || !asksAlone && !alone[0];
        }

        private int placeOf(int job) {
            for (int i = 0; i < size; i++) {
                if (jobs[i] == job) {
                    return i;
                }
            }
            return NONE;
        }
    }
}
