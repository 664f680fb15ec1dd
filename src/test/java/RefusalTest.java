import java.util.ArrayList;
import java.util.List;

/**
 * A refused call changes nothing, and neither does a call that only asks: after it, an object answers a long
 * row of further calls as its twin does on which that call was never made.
 */
public final class RefusalTest {
    private static int looked = 0;
    private static int wrong = 0;

    /** One call of the face, or a row of them that leads to a state. */
    private interface Call {
        int on(DataSets x);
    }

    public static void main(String[] args) {
        refusedMake();
        refusedExtend();
        refusedMember();
        refusedRemove();
        refusedGuard();
        refusedRename();
        refusedAttribute();
        refusedEnqueue();
        refusedFree();
        refusedCompressAndRelease();
        askingChangesNothing();
        System.out.println(looked + " calls looked at, " + wrong + " not as due");
        if (wrong != 0) {
            System.exit(1);
        }
    }

    private static void refused(String words, Call call, int want) {
        refusedAfter(RefusalTest::busy, words, call, want);
    }

    private static void refusedAfter(Call state, String words, Call call, int want) {
        looked++;
        DataSets x = new DataSets(40);
        state.on(x);
        int got = call.on(x);
        DataSets twin = new DataSets(40);
        state.on(twin);
        List<String> later = laterAnswers(x);
        List<String> due = laterAnswers(twin);
        if (got != want) {
            wrong++;
            System.out.println(words + " answered " + got + ", due is " + want);
        } else if (!later.equals(due)) {
            wrong++;
            System.out.println(words + " changed something: " + firstDifference(later, due));
        }
    }

    private static String firstDifference(List<String> later, List<String> due) {
        for (int i = 0; i < due.size(); i++) {
            if (!later.get(i).equals(due.get(i))) {
                return later.get(i) + " after it, " + due.get(i) + " without it";
            }
        }
        return "none";
    }

    /**
     * Set 1 has lost tracks and one left, set 2 a guard and no further tracks, set 3 twelve members and a guard,
     * set 4 is gone, set 5 has 16 extents, set 6 wants more further tracks than there are; names 1 and 50 are
     * held and waited for, and no set bears name 50.
     */
    private static int busy(DataSets x) {
        x.make(1, 4, 3);
        x.make(2, 2, 0);
        x.make(3, 3, 1);
        x.extend(1);
        x.make(4, 1, 0);
        x.remove(4, 0);
        x.make(5, 1, 1);
        for (int i = 2; i <= 16; i++) {
            x.extend(5);
        }
        x.make(6, 1, 500);
        x.member(1, 10, 2);
        x.member(1, 11, 2);
        x.member(1, 10, 2);
        for (int name = 20; name < 32; name++) {
            x.member(3, name, name == 25 ? 1 : 0);
        }
        x.guard(2, 10);
        x.guard(3, -5);
        x.attribute(1, 1, 0, 5);
        x.attribute(1, 2, 0, 6);
        x.attribute(1, 0, 9, -1);
        x.enqueue(1, 1, false);
        x.enqueue(2, 1, false);
        x.enqueue(3, 1, true);
        x.enqueue(4, 1, false);
        x.enqueue(5, 50, true);
        return x.enqueue(6, 50, true);
    }

    private static int sixtySets(DataSets x) {
        for (int i = 0; i < 60; i++) {
            x.make(i, 1, 1);
            if (i > 5) {
                x.remove(i, 0);
            }
        }
        return x.space(2);
    }

    /** Asks for all that can be asked, then brings out what cannot: rests, guards and who waits where. */
    private static List<String> laterAnswers(DataSets x) {
        List<String> rows = new ArrayList<>();
        askSpaceAndNames(x, rows);
        for (int set = 1; set <= 7; set++) {
            askSet(x, set, rows);
        }
        bringOutRests(x, rows);
        bringOutGuards(x, rows);
        bringOutLines(x, rows);
        rows.add("make " + x.make(90, 1, 0));
        rows.add("make " + x.make(91, 500, 0));
        return rows;
    }

    private static void askSpaceAndNames(DataSets x, List<String> rows) {
        for (int what = 0; what <= 5; what++) {
            rows.add("space " + what + ": " + x.space(what));
        }
        int[] names = {0, 1, 2, 3, 4, 5, 6, 7, 50, 60, 70, 99, 100};
        for (int name : names) {
            rows.add("find " + name + ": " + x.find(name));
        }
    }

    private static void askSet(DataSets x, int set, List<String> rows) {
        for (int i = 0; x.extent(set, i, 0) != DataSets.NONE; i++) {
            rows.add("extent " + set + " " + i + ": " + x.extent(set, i, 0) + " " + x.extent(set, i, 1));
        }
        int[] members = {10, 11, 12, 20, 25, 32};
        for (int name : members) {
            rows.add("track " + set + " " + name + ": " + x.track(set, name));
        }
        int[] attributes = {0, 1, 9};
        for (int what : attributes) {
            rows.add("merged " + set + " " + what + ": " + x.merged(set, what));
        }
    }

    private static void bringOutRests(DataSets x, List<String> rows) {
        rows.add("member " + x.member(1, 13, 1) + " at " + x.track(1, 13));
        rows.add("member " + x.member(1, 14, 1));
        rows.add("member " + x.member(3, 33, 0));
        for (int set = 1; set <= 6; set++) {
            rows.add("compress " + set + ": " + x.compress(set));
            rows.add("tracks " + set + ": " + x.track(set, 10) + " " + x.track(set, 11) + " " + x.track(set, 13));
            rows.add("release " + set + ": " + x.release(set));
            rows.add("extend " + set + ": " + x.extend(set));
            rows.add("free tracks: " + x.space(0) + " " + x.space(1));
        }
    }

    private static void bringOutGuards(DataSets x, List<String> rows) {
        rows.add("remove 5: " + x.remove(5, Long.MIN_VALUE));
        rows.add("remove 2, a day before: " + x.remove(2, 9));
        rows.add("remove 2: " + x.remove(2, 10));
        rows.add("remove 3, a day before: " + x.remove(3, -6));
        rows.add("remove 3: " + x.remove(3, -5));
    }

    private static void bringOutLines(DataSets x, List<String> rows) {
        rows.add("enqueue " + x.enqueue(7, 1, false) + x.enqueue(7, 50, true) + x.enqueue(7, 60, true));
        for (int job = 1; job <= 20; job++) {
            rows.add("free " + job + ": " + x.free(job) + ", " + x.space(4) + " hold, " + x.space(5) + " wait");
        }
        rows.add("rename " + x.rename(1, 70));
        rows.add("remove 70: " + x.remove(70, Long.MIN_VALUE));
    }

    private static void refusedMake() {
        refused("make, name -1", x -> x.make(-1, 1, 0), -4);
        refused("make, name 100", x -> x.make(100, 1, 0), -4);
        refused("make, first 0", x -> x.make(60, 0, 0), -4);
        refused("make, first 501", x -> x.make(60, 501, 0), -4);
        refused("make, further -1", x -> x.make(60, 1, -1), -4);
        refused("make, further 501", x -> x.make(60, 1, 501), -4);
        refused("make, the name is there", x -> x.make(1, 1, 0), -3);
        refused("make, no space", x -> x.make(60, 12, 0), -8);
        refusedAfter(RefusalTest::sixtySets, "make, there were 60", x -> x.make(60, 1, 0), DataSets.NONE);
        refusedAfter(RefusalTest::sixtySets, "make, there were 60, a name of before", x -> x.make(50, 1, 0), -1);
    }

    private static void refusedExtend() {
        refused("extend, set 0", x -> x.extend(0), -2);
        refused("extend, not any more", x -> x.extend(4), -2);
        refused("extend, not yet", x -> x.extend(7), -2);
        refused("extend, set 61", x -> x.extend(61), -2);
        refused("extend, it has 16", x -> x.extend(5), -7);
        refused("extend, further is 0", x -> x.extend(2), -7);
        refused("extend, no space", x -> x.extend(6), -8);
    }

    private static void refusedMember() {
        refused("member, not any more", x -> x.member(4, 10, 1), -2);
        refused("member, not yet", x -> x.member(7, 10, 1), -2);
        refused("member, name -1", x -> x.member(1, -1, 1), -4);
        refused("member, name 100", x -> x.member(1, 100, 1), -4);
        refused("member, n -1", x -> x.member(1, 10, -1), -4);
        refused("member, n 501", x -> x.member(1, 10, 501), -4);
        refused("member, the most n there is", x -> x.member(1, 10, Integer.MAX_VALUE), -4);
        refused("member, a 13th", x -> x.member(3, 32, 0), -6);
        refused("member, a 13th of one track", x -> x.member(3, 32, 1), -6);
        refused("member, a new one that is too long", x -> x.member(1, 12, 2), -8);
        refused("member, one again that is too long", x -> x.member(1, 10, 2), -8);
        refused("member, one of twelve that is too long", x -> x.member(3, 25, 3), -8);
        refused("member, one of none that is too long", x -> x.member(3, 20, 3), -8);
    }

    private static void refusedRemove() {
        refused("remove, no such name", x -> x.remove(60, 0), 0);
        refused("remove, not any more", x -> x.remove(4, 0), 0);
        refused("remove, name -1", x -> x.remove(-1, 0), 0);
        refused("remove, name 100", x -> x.remove(100, 0), 0);
        refused("remove, held", x -> x.remove(1, Long.MAX_VALUE), -5);
        refused("remove, guarded", x -> x.remove(2, 9), -9);
        refused("remove, guarded, the least day", x -> x.remove(3, Long.MIN_VALUE), -9);
    }

    private static void refusedGuard() {
        refused("guard, set 0", x -> x.guard(0, Long.MAX_VALUE), -2);
        refused("guard, not any more", x -> x.guard(4, Long.MAX_VALUE), -2);
        refused("guard, not yet", x -> x.guard(7, Long.MAX_VALUE), -2);
    }

    private static void refusedRename() {
        refused("rename, no such name", x -> x.rename(60, 70), 0);
        refused("rename, no such name, to one that is there", x -> x.rename(60, 1), 0);
        refused("rename, to -1", x -> x.rename(2, -1), -4);
        refused("rename, to 100", x -> x.rename(2, 100), -4);
        refused("rename, to one that is there", x -> x.rename(2, 3), -3);
        refused("rename, to the same", x -> x.rename(2, 2), -3);
        refused("rename, held", x -> x.rename(1, 60), -5);
        refused("rename, to one that is held", x -> x.rename(2, 50), -5);
    }

    private static void refusedAttribute() {
        refused("attribute, not any more", x -> x.attribute(4, 0, 0, 7), -2);
        refused("attribute, not yet", x -> x.attribute(7, 0, 0, 7), -2);
        refused("attribute, source -1", x -> x.attribute(1, -1, 0, 7), -4);
        refused("attribute, source -1, what 10", x -> x.attribute(1, -1, 10, 7), -4);
        refused("attribute, source 3", x -> x.attribute(1, 3, 0, 7), -4);
        refused("attribute, what -1", x -> x.attribute(1, 1, -1, 7), -4);
        refused("attribute, what 10", x -> x.attribute(1, 0, 10, 7), -4);
    }

    private static void refusedEnqueue() {
        refused("enqueue, job 0", x -> x.enqueue(0, 1, false), -4);
        refused("enqueue, job 21", x -> x.enqueue(21, 60, true), -4);
        refused("enqueue, name -1", x -> x.enqueue(1, -1, false), -4);
        refused("enqueue, name 100", x -> x.enqueue(1, 100, false), -4);
        refused("enqueue, holds it shared", x -> x.enqueue(1, 1, false), -5);
        refused("enqueue, holds it shared, asks alone", x -> x.enqueue(1, 1, true), -5);
        refused("enqueue, waits for it alone, asks shared", x -> x.enqueue(3, 1, false), -5);
        refused("enqueue, waits for it shared, asks alone", x -> x.enqueue(4, 1, true), -5);
        refused("enqueue, holds it alone, asks shared", x -> x.enqueue(5, 50, false), -5);
        refused("enqueue, waits for it", x -> x.enqueue(6, 50, true), -5);
    }

    private static void refusedFree() {
        refused("free, job 0", x -> x.free(0), -4);
        refused("free, job 21", x -> x.free(21), -4);
        refused("free, job -1", x -> x.free(-1), -4);
        refused("free, one who holds nothing", x -> x.free(20), 0);
    }

    private static void refusedCompressAndRelease() {
        refused("compress, set 0", x -> x.compress(0), -2);
        refused("compress, not any more", x -> x.compress(4), -2);
        refused("compress, not yet", x -> x.compress(7), -2);
        refused("compress, nothing to win", x -> x.compress(3), 0);
        refused("release, set 0", x -> x.release(0), -2);
        refused("release, not any more", x -> x.release(4), -2);
        refused("release, not yet", x -> x.release(7), -2);
        refused("release, only the first track", x -> x.release(6), 0);
    }

    private static void askingChangesNothing() {
        refused("find", x -> x.find(1), 1);
        refused("find, name -1", x -> x.find(-1), 0);
        refused("track", x -> x.track(1, 10), 9);
        refused("track, no such member", x -> x.track(1, 12), -1);
        refused("track, no tracks", x -> x.track(3, 20), -1);
        refused("merged", x -> x.merged(1, 0), 5);
        refused("merged, no one tells it", x -> x.merged(1, 1), -1);
        refused("extent", x -> x.extent(1, 1, 0), 9);
        refused("extent, none such", x -> x.extent(1, 2, 0), -1);
        refused("space", x -> x.space(0), 11);
        refused("space, others", x -> x.space(6), -1);
    }
}
