import java.util.ArrayList;
import java.util.LinkedHashMap;
import java.util.List;
import java.util.Map;
import java.util.Random;
import java.util.TreeMap;

/**
 * Long runs of calls from fixed seeds, compared with a second model that keeps its state in
 * another way: every track by itself, every member as a list of tracks.
 */
public final class ModelTest {
    private static final int RUNS = 6000;
    private static final int CALLS = 512;
    private static final int[] WILD = {Integer.MIN_VALUE, -2, -1, 0, 16, 20, 21, 60, 61, 99, 100, 500, 501,
        Integer.MAX_VALUE};

    public static void main(String[] args) {
        long calls = 0;
        Map<String, Integer> answers = new TreeMap<>();
        for (int seed = 0; seed < RUNS; seed++) {
            Run run = new Run(seed, answers);
            for (int i = 0; i < CALLS; i++) {
                String fault = run.step();
                calls++;
                if (fault != null) {
                    System.out.println("seed " + seed + ", call " + i + ": " + fault);
                    System.exit(1);
                }
            }
        }
        if (!reachesAllFaults(answers)) {
            System.exit(1);
        }
        System.out.println(calls + " calls answered as the model does");
    }

    /** Runs that never meet a fault would prove nothing about it. */
    private static boolean reachesAllFaults(Map<String, Integer> answers) {
        String[] wanted = {"make -4", "make -3", "make -8", "make -1", "extend -2", "extend -7", "extend -8",
            "extend 16", "member -2", "member -4", "member -6", "member -8", "remove 0", "remove 1", "remove -5",
            "remove -9", "rename 0", "rename 1", "rename -4", "rename -3", "rename -5", "attribute -2",
            "attribute -4", "enqueue 0", "enqueue 1", "enqueue -4", "enqueue -5", "free 0", "free 3", "free -4",
            "guard -2", "compress -2", "compress 0", "compress 5", "release -2", "release 0", "release 5"};
        boolean all = true;
        for (String w : wanted) {
            if (answers.getOrDefault(w, 0) < 5) {
                System.out.println("too few answers: " + w);
                all = false;
            }
        }
        return all;
    }

    /** One object and its model; the seed chooses how large the numbers are that it is asked with. */
    private static final class Run {
        final Random random;
        final Map<String, Integer> answers;
        final DataSets x;
        final Model model;
        final int names;
        final int jobs;
        final int size;
        final int wildness;
        final int kind;

        Run(int seed, Map<String, Integer> answers) {
            random = new Random(seed);
            this.answers = answers;
            int[] volumes = {1, 5, 20, 60, 200, 500, 0, 501};
            int tracks = volumes[random.nextInt(volumes.length)];
            x = new DataSets(tracks);
            model = new Model(tracks);
            int[] nameCounts = {2, 4, 10, 100};
            names = nameCounts[random.nextInt(nameCounts.length)];
            int[] jobCounts = {3, 6, 20};
            jobs = jobCounts[random.nextInt(jobCounts.length)];
            int[] sizes = {1, 3, 8, 60};
            size = sizes[random.nextInt(sizes.length)];
            int[] wildnesses = {1, 3, 15};
            wildness = wildnesses[random.nextInt(wildnesses.length)];
            kind = random.nextInt(4);
        }

        int some(int low, int high) {
            if (random.nextInt(100) < wildness) {
                return WILD[random.nextInt(WILD.length)];
            }
            return low + random.nextInt(high - low + 1);
        }

        int someSet() {
            int made = model.sets.size();
            return some(Math.max(1, made - 5), Math.max(1, made));
        }

        /** Kinds of runs: all calls alike, many sets, many members, many jobs. */
        int nextCall() {
            int n = random.nextInt(22);
            if (n < 16) {
                return n;
            }
            int[][] favoured = {{0, 1, 3, 4, 14, 15}, {0, 0, 0, 5, 1, 1}, {3, 3, 3, 12, 4, 13}, {10, 10, 10, 11, 5, 7}};
            return favoured[kind][n - 16];
        }

        String step() {
            switch (nextCall()) {
                case 0: {
                    int name = some(0, names - 1);
                    int first = some(1, size);
                    int further = some(0, size);
                    return same("make", x.make(name, first, further), model.make(name, first, further));
                }
                case 1: {
                    int set = someSet();
                    return same("extend", x.extend(set), model.extend(set));
                }
                case 2: {
                    int name = some(0, names - 1);
                    return same("find", x.find(name), model.find(name));
                }
                case 3: {
                    int set = someSet();
                    int name = some(0, Math.max(14, names) - 1);
                    int n = some(0, Math.min(size, 6));
                    return same("member", x.member(set, name, n), model.member(set, name, n));
                }
                case 4: {
                    int set = someSet();
                    int name = some(0, Math.max(14, names) - 1);
                    return same("track", x.track(set, name), model.track(set, name));
                }
                case 5: {
                    int name = some(0, names - 1);
                    long day = random.nextInt(5) == 0 ? Long.MIN_VALUE : random.nextInt(5);
                    return same("remove", x.remove(name, day), model.remove(name, day));
                }
                case 6: {
                    int set = someSet();
                    long day = random.nextInt(4) == 0 ? Long.MIN_VALUE : random.nextInt(6);
                    return same("guard", x.guard(set, day), model.guard(set, day));
                }
                case 7: {
                    int name = some(0, names - 1);
                    int to = some(0, names - 1);
                    return same("rename", x.rename(name, to), model.rename(name, to));
                }
                case 8: {
                    int set = someSet();
                    int source = some(0, 2);
                    int what = some(0, 9);
                    int v = some(-1, 9);
                    return same("attribute", x.attribute(set, source, what, v), model.attribute(set, source, what, v));
                }
                case 9: {
                    int set = someSet();
                    int what = some(0, 9);
                    return same("merged", x.merged(set, what), model.merged(set, what));
                }
                case 10: {
                    int job = some(1, jobs);
                    int name = some(0, names - 1);
                    boolean alone = random.nextInt(3) == 0;
                    return same("enqueue", x.enqueue(job, name, alone), model.enqueue(job, name, alone));
                }
                case 11: {
                    int job = some(1, jobs);
                    return same("free", x.free(job), model.free(job));
                }
                case 12: {
                    int set = someSet();
                    return same("compress", x.compress(set), model.compress(set));
                }
                case 13: {
                    int set = someSet();
                    return same("release", x.release(set), model.release(set));
                }
                case 14: {
                    int what = some(0, 6);
                    return same("space", x.space(what), model.space(what));
                }
                default: {
                    int set = someSet();
                    int i = some(0, 4);
                    int what = some(0, 2);
                    return same("extent", x.extent(set, i, what), model.extent(set, i, what));
                }
            }
        }

        String same(String call, int got, int want) {
            answers.merge(call + " " + got, 1, Integer::sum);
            return got == want ? null : call + " answered " + got + ", the model " + want;
        }
    }

    private static final class ModelSet {
        int name;
        int further;
        long guard = Long.MIN_VALUE;
        boolean there = true;
        /** All tracks of the volume that each extent has. */
        List<List<Integer>> extents = new ArrayList<>();
        /** Each member's positions in the set. */
        Map<Integer, List<Integer>> members = new LinkedHashMap<>();
        int next = 0;
        Map<Integer, Map<Integer, Integer>> told = new TreeMap<>();

        List<Integer> tracks() {
            List<Integer> all = new ArrayList<>();
            for (List<Integer> e : extents) {
                all.addAll(e);
            }
            return all;
        }
    }

    private static final class Request {
        int job;
        int name;
        boolean alone;
        boolean holds;
    }

    private static final class Model {
        final int[] owner;
        final List<ModelSet> sets = new ArrayList<>();
        final List<Request> requests = new ArrayList<>();

        Model(int tracks) {
            owner = new int[tracks < 1 ? 1 : tracks > 500 ? 500 : tracks];
        }

        ModelSet get(int set) {
            return set >= 1 && set <= sets.size() && sets.get(set - 1).there ? sets.get(set - 1) : null;
        }

        int find(int name) {
            for (ModelSet s : sets) {
                if (s.there && s.name == name) {
                    return sets.indexOf(s) + 1;
                }
            }
            return 0;
        }

        boolean isFree(int from, int n) {
            for (int t = from; t < from + n; t++) {
                if (owner[t] != 0) {
                    return false;
                }
            }
            return true;
        }

        int look(int n) {
            for (int from = 0; from + n <= owner.length; from++) {
                if (isFree(from, n)) {
                    return from;
                }
            }
            return -1;
        }

        void give(ModelSet s, int number, int from, int n) {
            List<Integer> e = new ArrayList<>();
            for (int t = from; t < from + n; t++) {
                owner[t] = number;
                e.add(t);
            }
            s.extents.add(e);
        }

        int make(int name, int first, int further) {
            if (name < 0 || name > 99 || first < 1 || first > 500 || further < 0 || further > 500) {
                return -4;
            }
            if (find(name) > 0) {
                return -3;
            }
            int from = look(first);
            if (from < 0) {
                return -8;
            }
            if (sets.size() == 60) {
                return -1;
            }
            ModelSet s = new ModelSet();
            s.name = name;
            s.further = further;
            sets.add(s);
            give(s, sets.size(), from, first);
            return sets.size();
        }

        int extend(int set) {
            ModelSet s = get(set);
            if (s == null) {
                return -2;
            }
            if (s.extents.size() == 16 || s.further == 0) {
                return -7;
            }
            int from = look(s.further);
            if (from < 0) {
                return -8;
            }
            give(s, set, from, s.further);
            return s.extents.size();
        }

        int member(int set, int name, int n) {
            ModelSet s = get(set);
            if (s == null) {
                return -2;
            }
            if (name < 0 || name > 99 || n < 0 || n > 500) {
                return -4;
            }
            if (!s.members.containsKey(name) && s.members.size() == 12) {
                return -6;
            }
            if (s.next + n > s.tracks().size()) {
                return -8;
            }
            List<Integer> positions = new ArrayList<>();
            for (int i = 0; i < n; i++) {
                positions.add(s.next++);
            }
            s.members.put(name, positions);
            return 1;
        }

        int track(int set, int name) {
            ModelSet s = get(set);
            if (s == null || !s.members.containsKey(name) || s.members.get(name).isEmpty()) {
                return -1;
            }
            return s.tracks().get(s.members.get(name).get(0));
        }

        boolean isAsked(int name) {
            return requests.stream().anyMatch(r -> r.name == name);
        }

        int remove(int name, long day) {
            int set = find(name);
            if (set == 0) {
                return 0;
            }
            if (isAsked(name)) {
                return -5;
            }
            if (get(set).guard > day) {
                return -9;
            }
            for (int t : get(set).tracks()) {
                owner[t] = 0;
            }
            get(set).there = false;
            return 1;
        }

        int guard(int set, long day) {
            if (get(set) == null) {
                return -2;
            }
            get(set).guard = day;
            return 1;
        }

        int rename(int name, int to) {
            if (find(name) == 0) {
                return 0;
            }
            if (to < 0 || to > 99) {
                return -4;
            }
            if (find(to) != 0) {
                return -3;
            }
            if (isAsked(name) || isAsked(to)) {
                return -5;
            }
            get(find(name)).name = to;
            return 1;
        }

        int attribute(int set, int source, int what, int v) {
            if (get(set) == null) {
                return -2;
            }
            if (source < 0 || source > 2 || what < 0 || what > 9) {
                return -4;
            }
            get(set).told.computeIfAbsent(what, k -> new TreeMap<>()).put(source, v);
            return 1;
        }

        int merged(int set, int what) {
            if (get(set) == null || !get(set).told.containsKey(what)) {
                return -1;
            }
            return get(set).told.get(what).values().iterator().next();
        }

        boolean canHave(Request asked) {
            for (Request r : requests) {
                if (r == asked) {
                    return true;
                }
                if (r.name == asked.name && (!r.holds || r.alone || asked.alone)) {
                    return false;
                }
            }
            return true;
        }

        int enqueue(int job, int name, boolean alone) {
            if (job < 1 || job > 20 || name < 0 || name > 99) {
                return -4;
            }
            for (Request r : requests) {
                if (r.job == job && r.name == name) {
                    return -5;
                }
            }
            Request asked = new Request();
            asked.job = job;
            asked.name = name;
            asked.alone = alone;
            asked.holds = canHave(asked);
            requests.add(asked);
            return asked.holds ? 1 : 0;
        }

        int free(int job) {
            if (job < 1 || job > 20) {
                return -4;
            }
            int held = (int) requests.stream().filter(r -> r.job == job && r.holds).count();
            requests.removeIf(r -> r.job == job);
            for (Request r : requests) {
                r.holds = r.holds || canHave(r);
            }
            return held;
        }

        int compress(int set) {
            ModelSet s = get(set);
            if (s == null) {
                return -2;
            }
            int before = s.next;
            List<Map.Entry<Integer, List<Integer>>> lying = new ArrayList<>(s.members.entrySet());
            lying.removeIf(e -> e.getValue().isEmpty());
            lying.sort((a, b) -> a.getValue().get(0) - b.getValue().get(0));
            s.next = 0;
            for (Map.Entry<Integer, List<Integer>> e : lying) {
                for (int i = 0; i < e.getValue().size(); i++) {
                    e.getValue().set(i, s.next++);
                }
            }
            return before - s.next;
        }

        int release(int set) {
            ModelSet s = get(set);
            if (s == null) {
                return -2;
            }
            int count = 0;
            while (s.tracks().size() > Math.max(1, s.next)) {
                List<Integer> last = s.extents.get(s.extents.size() - 1);
                owner[last.remove(last.size() - 1)] = 0;
                count++;
                if (last.isEmpty()) {
                    s.extents.remove(s.extents.size() - 1);
                }
            }
            return count;
        }

        int space(int what) {
            int result = 0;
            switch (what) {
                case 0:
                    for (int o : owner) {
                        result += o == 0 ? 1 : 0;
                    }
                    return result;
                case 1:
                    while (look(result + 1) >= 0) {
                        result++;
                    }
                    return result;
                case 2:
                    return (int) sets.stream().filter(s -> s.there).count();
                case 3:
                    return sets.stream().filter(s -> s.there).mapToInt(s -> s.extents.size()).sum();
                case 4:
                    return (int) requests.stream().filter(r -> r.holds).count();
                case 5:
                    return (int) requests.stream().filter(r -> !r.holds).count();
                default:
                    return -1;
            }
        }

        int extent(int set, int i, int what) {
            ModelSet s = get(set);
            if (s == null || i < 0 || i >= s.extents.size() || what < 0 || what > 1) {
                return -1;
            }
            return what == 0 ? s.extents.get(i).get(0) : s.extents.get(i).size();
        }
    }
}
