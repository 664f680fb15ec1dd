/**
 * The document's boundary cases, sentence by sentence and in its order: each sentence that names one
 * (too small, too large, empty, full, a wrap-around, a refused call) has a test of its own here.
 * What stands between quotes is the document's own text.
 */
public final class BoundaryTests {
    private static final int MIN = Integer.MIN_VALUE;
    private static final int MAX = Integer.MAX_VALUE;
    private static final long FIRST_DAY = Long.MIN_VALUE;
    private static final long LAST_DAY = Long.MAX_VALUE;
    /** Numbers that no set bears; a narrower type would take some of them for set 1. */
    private static final int[] NO_SETS = {MIN, MIN + 1, -65535, -255, -60, -2, -1, 0, 61, 62, 257, 65537, MAX};
    /** Numbers that are no name; a narrower type would take some of them for name 0 or 1. */
    private static final int[] NO_NAMES = {MIN, MIN + 1, -256, -100, -2, -1, 100, 101, 256, 257, 65536, MAX};
    private static final int[] NO_JOBS = {MIN, MIN + 1, -255, -20, -1, 0, 21, 22, 257, 65537, MAX};

    private static String words = "";
    private static int sentences = 0;
    private static int answers = 0;
    private static int wrong = 0;

    /** The sentence that the answers after this belong to. */
    private static void sentence(String quoted) {
        words = quoted;
        sentences++;
    }

    private static void due(String call, long got, long want) {
        answers++;
        if (got != want) {
            wrong++;
            System.out.println("\"" + words + "\": " + call + " answered " + got + ", due is " + want);
        }
    }

    public static void main(String[] args) {
        termsOfVolumeAndSets();
        termsOfSpace();
        termsOfMembers();
        termsOfAttributes();
        termsOfHolding();
        promise1();
        promise2();
        promise3();
        promise4();
        promise5();
        promise6();
        promise7();
        promise8();
        promise9();
        promise10();
        promise11();
        promise12();
        promise13();
        promise14();
        promise15();
        promise16();
        promise17();
        System.out.println(sentences + " sentences, " + answers + " answers looked at, " + wrong + " not as due");
        if (wrong != 0) {
            System.exit(1);
        }
    }

    private static void termsOfVolumeAndSets() {
        the512thCallIsAnswered();
        tracksFromZeroOn();
        setsFromOneOn();
        sixtyInAll();
        namesOfSets();
        extentsBelongToOneSet();
    }

    private static void the512thCallIsAnswered() {
        sentence("An object is used for at most 512 calls after it has been made");
        DataSets x = new DataSets(500);
        due("call 1", x.make(1, 500, 0), 1);
        for (int call = 2; call <= 501; call++) {
            due("call " + call, x.member(1, 7, 1), 1);
        }
        due("call 502", x.member(1, 7, 1), -8);
        due("call 503", x.compress(1), 499);
        due("call 504", x.member(1, 8, 499), 1);
        due("call 505", x.track(1, 8), 1);
        due("call 506", x.release(1), 0);
        due("call 507", x.member(1, 9, 1), -8);
        due("call 508", x.member(1, 8, 0), 1);
        due("call 509", x.compress(1), 499);
        due("call 510", x.release(1), 499);
        due("call 511", x.make(2, 499, 0), 2);
        due("call 512", x.space(0), 0);
    }

    private static void tracksFromZeroOn() {
        sentence("The VOLUME has TRACKS 0 .. tracks - 1.");
        DataSets x = new DataSets(7);
        x.make(1, 1, 0);
        x.make(2, 5, 0);
        due("the last track is there", x.make(3, 1, 0), 3);
        due("track 0 is the first", x.extent(1, 0, 0), 0);
        due("track 6 is the last", x.extent(3, 0, 0), 6);
        due("there is no track 7", x.make(4, 1, 0), -8);
        DataSets one = new DataSets(1);
        due("a volume of one track", one.make(1, 1, 1), 1);
        due("its only track is 0", one.extent(1, 0, 0), 0);
        due("there is no track 1", one.extend(1), -8);
        DataSets most = new DataSets(500);
        most.make(1, 499, 1);
        due("track 499", most.extend(1), 2);
        due("track 499", most.extent(1, 1, 0), 499);
        due("there is no track 500", most.extend(1), -8);
    }

    private static void setsFromOneOn() {
        sentence("SETS are numbered from 1 on");
        DataSets x = new DataSets(9);
        due("a refused one takes no number", x.make(1, 10, 0), -8);
        due("the first", x.make(1, 1, 0), 1);
        due("a refused one takes no number", x.make(1, 1, 0), -3);
        due("the second", x.make(2, 1, 0), 2);
        x.remove(2, 0);
        due("the last number is not given again", x.make(2, 1, 0), 3);
        due("no set 0", x.guard(0, 0), -2);
        due("no set 2 any more", x.guard(2, 0), -2);
        due("no set 4 yet", x.guard(4, 0), -2);
    }

    private static void sixtyInAll() {
        sentence("at most 60 in all");
        DataSets x = new DataSets(1);
        for (int i = 1; i <= 60; i++) {
            due("set " + i + ", alone on the volume", x.make(5, 1, 0), i);
            due("it goes", x.remove(5, 0), 1);
        }
        due("none is there, but there were 60", x.make(5, 1, 0), DataSets.NONE);
        due("none is there", x.space(2), 0);
        due("no track is taken", x.space(0), 1);
        due("not found", x.find(5), 0);
        due("no set 61", x.extent(61, 0, 0), -1);
    }

    private static void namesOfSets() {
        sentence("each with a NAME 0 .. 99 that no other one that is there has");
        DataSets x = new DataSets(9);
        due("name 0", x.make(0, 1, 0), 1);
        due("name 99", x.make(99, 1, 0), 2);
        due("name 0 is there", x.make(0, 1, 0), -3);
        due("name 99 is there", x.make(99, 1, 0), -3);
        x.remove(0, 0);
        due("name 0 of one that is not there any more", x.make(0, 1, 0), 3);
        x.rename(99, 98);
        due("name 99 that the other one has no longer", x.make(99, 1, 0), 4);
        due("name 98 that it has now", x.make(98, 1, 0), -3);
    }

    private static void extentsBelongToOneSet() {
        sentence("EXTENTS (1 to 16) of tracks one behind the other that belong to no other one");
        DataSets x = new DataSets(80);
        x.make(1, 2, 3);
        x.make(2, 3, 2);
        for (int i = 2; i <= 16; i++) {
            due("set 1, extent " + i, x.extend(1), i);
            due("set 2, extent " + i, x.extend(2), i);
        }
        int[] owner = new int[80];
        int shared = 0;
        for (int set = 1; set <= 2; set++) {
            for (int i = 0; i < 16; i++) {
                int first = x.extent(set, i, 0);
                for (int t = first; t < first + x.extent(set, i, 1); t++) {
                    shared += owner[t] == 0 ? 0 : 1;
                    owner[t] = set;
                }
            }
        }
        due("tracks of two extents", shared, 0);
        due("a track between two of the other's", owner[5], 1);
        due("all tracks taken", x.space(0), 0);
        due("16 each", x.space(3), 32);
    }

    private static void termsOfSpace() {
        firstGapThatSuffices();
        noGapSuffices();
        neighboursStayApart();
        tracksCountedThroughExtents();
    }

    /** Free: 1 track at 0, 2 at 2, 3 at 5, 2 at 9. */
    private static DataSets gapsOfOneTwoThreeTwo() {
        DataSets x = new DataSets(11);
        int[] lengths = {1, 1, 2, 1, 3, 1};
        for (int i = 0; i < lengths.length; i++) {
            x.make(i, lengths[i], 0);
        }
        x.remove(0, 0);
        x.remove(2, 0);
        x.remove(4, 0);
        return x;
    }

    private static void firstGapThatSuffices() {
        sentence("SPACE for n tracks is looked for as the first n free tracks one behind the other, from track 0 on");
        int[] firsts = {0, 2, 5};
        for (int n = 1; n <= 3; n++) {
            DataSets x = gapsOfOneTwoThreeTwo();
            due(n + " tracks", x.make(50, n, 0), 7);
            due(n + " tracks in the first gap of so many", x.extent(7, 0, 0), firsts[n - 1]);
        }
        DataSets y = gapsOfOneTwoThreeTwo();
        y.make(50, 2, 2);
        due("the next gap of two is the longer one", y.extend(7), 2);
        due("at its beginning", y.extent(7, 1, 0), 5);
        due("its rest is too short, so the volume's end", y.extend(7), 3);
        due("the volume's end", y.extent(7, 2, 0), 9);
        due("two more, but not one behind the other", y.extend(7), -8);
        due("two are free", y.space(0), 2);
    }

    private static void noGapSuffices() {
        sentence("n free tracks one behind the other");
        DataSets x = gapsOfOneTwoThreeTwo();
        due("8 are free", x.space(0), 8);
        due("no four of them one behind the other", x.make(50, 4, 0), -8);
        due("nothing is taken", x.space(0), 8);
        DataSets y = new DataSets(5);
        y.make(1, 1, 0);
        y.make(2, 3, 0);
        y.remove(1, 0);
        due("track 0 is not behind the last one", y.make(3, 2, 0), -8);
        due("each by itself", y.make(3, 1, 1), 3);
        due("each by itself", y.extend(3), 2);
        due("the last one came later", y.extent(3, 1, 0), 4);
    }

    private static void neighboursStayApart() {
        sentence("it is one extent, also when it stands next to another one of the set's");
        DataSets x = new DataSets(9);
        x.make(1, 3, 3);
        due("behind its own", x.extend(1), 2);
        due("behind its own", x.extend(1), 3);
        for (int i = 0; i < 3; i++) {
            due("first of " + i, x.extent(1, i, 0), 3 * i);
            due("length of " + i, x.extent(1, i, 1), 3);
        }
        due("three in all", x.space(3), 3);
        DataSets y = new DataSets(4);
        y.make(1, 2, 0);
        y.make(2, 2, 2);
        y.remove(1, 0);
        due("before its own", y.extend(2), 2);
        due("two in all", y.space(3), 2);
        due("the first one is still so long", y.extent(2, 0, 1), 2);
    }

    private static void tracksCountedThroughExtents() {
        sentence("A set's tracks are counted 0, 1, .. through its extents, in the order in which they came.");
        DataSets x = new DataSets(6);
        x.make(1, 2, 0);
        x.make(2, 1, 0);
        x.make(3, 1, 1);
        x.remove(1, 0);
        x.extend(3);
        x.extend(3);
        x.extend(3);
        int[] onVolume = {3, 0, 1, 4};
        for (int i = 0; i < 4; i++) {
            x.member(3, i, 1);
            due("track " + i + " of the set", x.track(3, i), onVolume[i]);
        }
        due("it has no fifth", x.member(3, 4, 1), -8);
    }

    private static void termsOfMembers() {
        twelveMembersAtMost();
        behindAllEverGiven();
        lostTillCompressed();
    }

    private static void twelveMembersAtMost() {
        sentence("MEMBERS of a set (at most 12) have names 0 .. 99 and some tracks");
        DataSets x = new DataSets(20);
        x.make(1, 5, 0);
        x.make(2, 5, 0);
        due("name 0", x.member(1, 0, 1), 1);
        due("name 99", x.member(1, 99, 1), 1);
        for (int name = 40; name < 50; name++) {
            due("name " + name, x.member(1, name, 0), 1);
        }
        due("a 13th", x.member(1, 50, 0), -6);
        due("the other set has twelve of its own", x.member(2, 50, 0), 1);
        due("the first of the twelve", x.track(1, 0), 0);
        due("the second of the twelve", x.track(1, 99), 1);
    }

    private static void behindAllEverGiven() {
        sentence("a new one, or one that is made again, gets the tracks behind all that were ever given");
        DataSets x = new DataSets(20);
        x.make(1, 20, 0);
        x.member(1, 1, 2);
        x.member(1, 1, 2);
        due("the only one made again does not grow in its place", x.track(1, 1), 2);
        x.member(1, 2, 0);
        x.member(1, 3, 1);
        due("one of no tracks takes none", x.track(1, 3), 4);
        x.member(1, 3, 0);
        x.member(1, 2, 1);
        due("what was given and lost stays behind", x.track(1, 2), 5);
        due("a refused one", x.member(1, 4, 15), -8);
        x.member(1, 4, 14);
        due("has got nothing", x.track(1, 4), 6);
        due("all are given", x.member(1, 1, 1), -8);
        due("the others stay where they are", x.track(1, 1), 2);
        sentence("since its beginning, or the latest compressing");
        due("lost: 2 and 1", x.compress(1), 3);
        x.member(1, 5, 1);
        due("behind those that are left", x.track(1, 5), 17);
        x.member(1, 5, 1);
        due("the old place is not given again", x.track(1, 5), 18);
        due("1 more is lost", x.compress(1), 1);
        x.member(1, 6, 1);
        due("since the latest one", x.track(1, 6), 18);
    }

    private static void lostTillCompressed() {
        sentence("what a member had before is lost till then");
        DataSets x = new DataSets(4);
        x.make(1, 4, 0);
        x.member(1, 1, 3);
        due("made again, shorter", x.member(1, 1, 1), 1);
        due("3 lost, none left", x.member(1, 2, 1), -8);
        due("nor can they be released", x.release(1), 0);
        due("made again of none", x.member(1, 1, 0), 1);
        due("all 4 lost", x.member(1, 2, 1), -8);
        due("till then", x.compress(1), 4);
        due("all 4 again", x.member(1, 2, 4), 1);
    }

    private static void termsOfAttributes() {
        sentence("ATTRIBUTES 0 .. 9 of a set are told by sources: 0 the program, 1 the job's text, 2 the label");
        DataSets x = new DataSets(2);
        x.make(1, 1, 0);
        for (int source = 2; source >= 0; source--) {
            for (int what = 0; what <= 9; what++) {
                due("source " + source + " tells " + what, x.attribute(1, source, what, 10 * source + what), 1);
            }
            for (int what = 0; what <= 9; what++) {
                due("it counts before those behind it, " + what, x.merged(1, what), 10 * source + what);
            }
        }
        sentence("the first source that tells one counts");
        DataSets y = new DataSets(2);
        y.make(1, 1, 0);
        y.attribute(1, 0, 4, 40);
        y.attribute(1, 1, 4, 41);
        y.attribute(1, 2, 4, 42);
        due("source 0, though the others told later", y.merged(1, 4), 40);
        y.attribute(1, 1, 5, 51);
        y.attribute(1, 2, 5, 52);
        due("source 1, as 0 does not tell it", y.merged(1, 5), 51);
        y.attribute(1, 2, 6, 62);
        due("source 2, as the others do not tell it", y.merged(1, 6), 62);
        y.attribute(1, 0, 6, 0);
        due("0 is told too", y.merged(1, 6), 0);
    }

    private static void termsOfHolding() {
        jobsOneToTwenty();
        atOnce();
        behindAllWhoWait();
        inTheirOrder();
    }

    private static void jobsOneToTwenty() {
        sentence("NAMES are HELD by JOBS 1 .. 20, shared or alone.");
        DataSets x = new DataSets(1);
        for (int job = 1; job <= 20; job++) {
            due("job " + job + " shares", x.enqueue(job, 0, false), 1);
        }
        due("all twenty hold it", x.space(4), 20);
        DataSets y = new DataSets(1);
        due("job 20 alone", y.enqueue(20, 99, true), 1);
        for (int job = 1; job <= 19; job++) {
            due("job " + job + " waits", y.enqueue(job, 99, false), 0);
        }
        due("one holds it", y.space(4), 1);
        due("all others wait", y.space(5), 19);
        due("free", y.free(20), 1);
        due("all others hold it", y.space(4), 19);
    }

    private static void atOnce() {
        sentence("gets it at once if no one waits for it, and no one holds it, or all hold it shared and so is asked");
        DataSets x = new DataSets(1);
        due("no one holds it, alone", x.enqueue(1, 1, true), 1);
        due("no one holds it, shared", x.enqueue(1, 2, false), 1);
        due("held shared, shared", x.enqueue(2, 2, false), 1);
        due("held shared, alone", x.enqueue(3, 2, true), 0);
        due("held alone, shared", x.enqueue(2, 1, false), 0);
        due("held alone, alone", x.enqueue(3, 1, true), 0);
        due("held shared, shared, but one waits", x.enqueue(4, 2, false), 0);
        due("another name", x.enqueue(4, 3, true), 1);
    }

    private static void behindAllWhoWait() {
        sentence("else waits, behind all who wait");
        DataSets x = new DataSets(1);
        x.enqueue(9, 1, true);
        x.enqueue(8, 1, true);
        x.enqueue(10, 1, true);
        x.enqueue(7, 1, true);
        int[] turns = {9, 8, 10, 7};
        for (int i = 0; i < turns.length; i++) {
            due("who wait", x.space(5), 3 - i);
            due("job " + turns[i] + " has it now", x.free(turns[i]), 1);
        }
        due("no one waits", x.space(5), 0);
    }

    private static void inTheirOrder() {
        sentence("of each name those who wait get it, in their order, as long as the first one of them can");
        DataSets x = new DataSets(1);
        x.enqueue(1, 1, true);
        x.enqueue(1, 2, true);
        x.enqueue(2, 1, false);
        x.enqueue(3, 1, false);
        x.enqueue(4, 1, true);
        x.enqueue(5, 1, false);
        x.enqueue(3, 2, true);
        x.enqueue(2, 2, false);
        due("two names", x.free(1), 2);
        due("2 and 3 share the one, 3 has the other alone", x.space(4), 3);
        due("4 and 5 wait for the one, 2 for the other", x.space(5), 3);
        due("3 held both", x.free(3), 2);
        due("2 has both", x.space(4), 2);
        due("4 can not yet, 5 may not pass it", x.space(5), 2);
        due("2 held both", x.free(2), 2);
        due("4 alone", x.space(4), 1);
        due("5 behind it", x.space(5), 1);
        due("4", x.free(4), 1);
        due("5", x.free(5), 1);
    }

    private static void promise1() {
        sentence("A volume of 1 .. 500 tracks (numbers outside are held to these), all free.");
        int[][] rows = {{MIN, 1}, {-500, 1}, {-1, 1}, {0, 1}, {1, 1}, {2, 2}, {257, 257}, {499, 499}, {500, 500},
            {501, 500}, {512, 500}, {65537, 500}, {MAX, 500}};
        for (int[] row : rows) {
            DataSets x = new DataSets(row[0]);
            due(row[0] + ": free", x.space(0), row[1]);
            due(row[0] + ": one behind the other", x.space(1), row[1]);
            if (row[1] < 500) {
                due(row[0] + ": one more than there are", x.make(1, row[1] + 1, 0), -8);
            }
            due(row[0] + ": all of them", x.make(1, row[1], 1), 1);
            due(row[0] + ": no more", x.extend(1), -8);
        }
    }

    private static void promise2() {
        sentence("A new set of one extent of first tracks (1 .. 500), further 0 .. 500: its number");
        DataSets x = new DataSets(500);
        due("least first, least further", x.make(0, 1, 0), 1);
        due("most further", x.make(1, 1, 500), 2);
        due("one extent each", x.space(3), 2);
        due("of one track", x.extent(2, 0, 1), 1);
        DataSets y = new DataSets(500);
        due("most first", y.make(99, 500, 500), 1);
        due("500 tracks", y.extent(1, 0, 1), 500);
        makeWithNumbersOutside();
        makeNameIsThere();
        makeNoSpace();
        makeThereWere60();
    }

    private static void makeWithNumbersOutside() {
        sentence("-4");
        DataSets x = new DataSets(500);
        int[] outside = {MIN, MIN + 1, -500, -255, -1, 501, 502, 65537, MAX};
        for (int n : outside) {
            due("first " + n, x.make(1, n, 0), -4);
            due("further " + n, x.make(1, 1, n), -4);
        }
        due("first 0", x.make(1, 0, 0), -4);
        for (int name : NO_NAMES) {
            due("name " + name, x.make(name, 1, 0), -4);
        }
        due("no set is made", x.space(2), 0);
        due("no track is taken", x.space(0), 500);
    }

    private static void makeNameIsThere() {
        sentence("-3 the name is there");
        DataSets x = new DataSets(2);
        x.make(7, 2, 0);
        due("there, and no space too", x.make(7, 1, 0), -3);
        due("there, but -4 comes first", x.make(7, 501, 0), -4);
        x.enqueue(1, 8, true);
        x.remove(7, 0);
        due("not there any more", x.make(7, 1, 0), 2);
        due("held, but not there", x.make(8, 1, 0), 3);
    }

    private static void makeNoSpace() {
        sentence("-8 no space");
        DataSets x = new DataSets(3);
        due("one more than the volume has", x.make(1, 4, 0), -8);
        due("as many as it has", x.make(1, 3, 0), 1);
        due("on a full volume", x.make(2, 1, 0), -8);
        due("further needs no space yet", x.remove(1, 0), 1);
        due("further needs no space yet", x.make(1, 3, 500), 2);
    }

    private static void makeThereWere60() {
        sentence("NONE there were 60; the first of these");
        DataSets x = new DataSets(61);
        for (int i = 0; i < 60; i++) {
            due("set " + (i + 1), x.make(i, 1, 0), i + 1);
        }
        due("a 61st", x.make(60, 1, 0), -1);
        due("a 61st, first 0", x.make(60, 0, 0), -4);
        due("a 61st of a name that is there", x.make(59, 1, 0), -3);
        due("a 61st without space", x.make(60, 2, 0), -8);
        due("the last one stays", x.find(59), 60);
        due("the last one is a set as others", x.extent(60, 0, 0), 59);
    }

    private static void promise3() {
        sentence("One more extent of the set's further tracks: how many extents it has");
        DataSets x = new DataSets(500);
        x.make(1, 1, 499);
        due("all that is left", x.extend(1), 2);
        due("from 1", x.extent(1, 1, 0), 1);
        due("499 tracks", x.extent(1, 1, 1), 499);
        sentence("-2 no such set (any more)");
        DataSets y = new DataSets(20);
        y.make(1, 1, 1);
        y.make(2, 1, 1);
        for (int set : NO_SETS) {
            due("set " + set, y.extend(set), -2);
        }
        due("not yet", y.extend(3), -2);
        y.remove(1, 0);
        due("not any more", y.extend(1), -2);
        y.make(1, 1, 1);
        due("nor when its name is there again", y.extend(1), -2);
        due("that one is set 3", y.extend(3), 2);
        extendSixteenOrNoFurther();
        extendNoSpace();
    }

    private static void extendSixteenOrNoFurther() {
        sentence("-7 it has 16, or further is 0");
        DataSets x = new DataSets(17);
        x.make(1, 1, 1);
        for (int i = 2; i <= 16; i++) {
            due("extent " + i, x.extend(1), i);
        }
        due("a 17th, with space", x.extend(1), -7);
        due("the space stays free", x.space(0), 1);
        x.make(2, 1, 0);
        due("a 17th, without space", x.extend(1), -7);
        due("further 0, without space", x.extend(2), -7);
        due("further 0 adds no extent", x.space(3), 17);
        x.release(1);
        due("it has 1 again", x.extend(1), 2);
    }

    private static void extendNoSpace() {
        sentence("-8");
        DataSets x = new DataSets(10);
        x.make(1, 1, 5);
        x.make(2, 5, 0);
        due("4 free, 5 asked for", x.extend(1), -8);
        due("it has one still", x.extent(1, 1, 0), -1);
        due("nothing is taken", x.space(0), 4);
        x.remove(2, 0);
        due("with space", x.extend(1), 2);
    }

    private static void promise4() {
        sentence("The set of a name; 0 when there is none.");
        DataSets x = new DataSets(9);
        due("no set at all", x.find(0), 0);
        x.make(0, 1, 0);
        x.make(99, 1, 0);
        x.make(1, 1, 0);
        due("name 0", x.find(0), 1);
        due("name 99", x.find(99), 2);
        due("name 2", x.find(2), 0);
        for (int name : NO_NAMES) {
            due("name " + name, x.find(name), 0);
        }
        x.remove(0, 0);
        due("none any more", x.find(0), 0);
        x.enqueue(1, 50, true);
        due("a held name is no set's", x.find(50), 0);
    }

    private static void promise5() {
        sentence("A member is made, or made again, of n (0 .. 500) tracks: 1");
        DataSets x = new DataSets(500);
        x.make(1, 500, 0);
        due("least n", x.member(1, 0, 0), 1);
        due("most n", x.member(1, 99, 500), 1);
        due("made again, least n", x.member(1, 99, 0), 1);
        due("no tracks now", x.track(1, 99), -1);
        x.compress(1);
        due("made again, most n", x.member(1, 0, 500), 1);
        due("from the first on", x.track(1, 0), 0);
        memberNoSuchSet();
        memberWithNumbersOutside();
        memberThirteenth();
        memberTracksDoNotSuffice();
    }

    private static void memberNoSuchSet() {
        sentence("-2");
        DataSets x = new DataSets(9);
        x.make(1, 1, 0);
        for (int set : NO_SETS) {
            due("set " + set, x.member(set, 1, 0), -2);
        }
        due("not yet, and -4 too", x.member(2, -1, 501), -2);
        x.remove(1, 0);
        due("not any more", x.member(1, 1, 0), -2);
    }

    private static void memberWithNumbersOutside() {
        sentence("-4");
        DataSets x = new DataSets(500);
        x.make(1, 500, 0);
        for (int name : NO_NAMES) {
            due("name " + name, x.member(1, name, 0), -4);
        }
        int[] outside = {MIN, MIN + 1, -500, -1, 501, 502, 65536, MAX - 499, MAX};
        for (int n : outside) {
            due("n " + n, x.member(1, 1, n), -4);
        }
        due("no member is made", x.compress(1), 0);
        due("all tracks are left", x.member(1, 1, 500), 1);
        due("a sum that wraps around is no way round", x.member(1, 2, MAX), -4);
    }

    private static void memberThirteenth() {
        sentence("-6 there would be a 13th");
        DataSets x = new DataSets(20);
        x.make(1, 13, 0);
        for (int name = 88; name <= 99; name++) {
            due("member " + name, x.member(1, name, 1), 1);
        }
        due("a 13th, with space", x.member(1, 12, 1), -6);
        due("a 13th without tracks", x.member(1, 0, 0), -6);
        due("a 13th, without space", x.member(1, 12, 2), -6);
        due("a 13th of no name", x.member(1, 100, 1), -4);
        due("no 13th is there", x.track(1, 12), -1);
        due("the last of twelve again is no 13th", x.member(1, 99, 1), 1);
        due("the first of twelve again is no 13th", x.member(1, 88, 0), 1);
        due("one of no tracks is one of them still", x.member(1, 12, 0), -6);
        x.compress(1);
        due("also when compressed", x.member(1, 12, 0), -6);
    }

    private static void memberTracksDoNotSuffice() {
        sentence("-8 the set's tracks don't suffice");
        DataSets x = new DataSets(500);
        x.make(1, 3, 2);
        due("one more than it has", x.member(1, 1, 4), -8);
        due("many more, though the volume has them", x.member(1, 1, 497), -8);
        due("as many as it has", x.member(1, 1, 3), 1);
        due("a new one on a full set", x.member(1, 2, 1), -8);
        due("the same again on a full set", x.member(1, 1, 1), -8);
        due("it keeps what it had", x.track(1, 1), 0);
        due("none is asked for", x.member(1, 2, 0), 1);
        x.extend(1);
        due("one more than was added", x.member(1, 2, 3), -8);
        due("as many as were added", x.member(1, 2, 2), 1);
        due("nothing lost by what was refused", x.compress(1), 0);
    }

    private static void promise6() {
        sentence("The member's first track, as the volume counts them");
        DataSets x = new DataSets(500);
        x.make(1, 1, 0);
        x.make(2, 498, 1);
        x.extend(2);
        x.member(2, 0, 497);
        x.member(2, 99, 1);
        x.member(2, 50, 1);
        due("the set's first", x.track(2, 0), 1);
        due("the first extent's last", x.track(2, 99), 498);
        due("the volume's last", x.track(2, 50), 499);
        x.member(1, 0, 1);
        due("the volume's first", x.track(1, 0), 0);
        sentence("NONE when there is none such, or it has no tracks");
        due("no such member", x.track(2, 1), -1);
        for (int name : NO_NAMES) {
            due("name " + name, x.track(2, name), -1);
        }
        for (int set : NO_SETS) {
            due("set " + set, x.track(set, 0), -1);
        }
        due("set 3, not yet", x.track(3, 0), -1);
        x.member(2, 1, 0);
        due("no tracks, on a full set", x.track(2, 1), -1);
        DataSets y = new DataSets(5);
        y.make(1, 5, 0);
        y.member(1, 1, 0);
        due("no tracks, on an empty set", y.track(1, 1), -1);
        y.member(1, 2, 1);
        due("no tracks, another one at its place", y.track(1, 1), -1);
        y.remove(1, 0);
        due("not any more", y.track(1, 2), -1);
    }

    private static void promise7() {
        sentence("A set goes, and its tracks are free, on a day: 1");
        DataSets x = new DataSets(16);
        x.make(1, 1, 1);
        for (int i = 2; i <= 16; i++) {
            x.extend(1);
        }
        due("of all 16 extents", x.remove(1, FIRST_DAY), 1);
        due("all free", x.space(0), 16);
        due("one behind the other", x.space(1), 16);
        due("no extents", x.space(3), 0);
        due("all in one", x.make(1, 16, 0), 2);
        sentence("0 no such name");
        due("none such", x.remove(2, LAST_DAY), 0);
        for (int name : NO_NAMES) {
            due("name " + name, x.remove(name, LAST_DAY), 0);
        }
        x.enqueue(1, 3, true);
        due("none such, though held", x.remove(3, LAST_DAY), 0);
        x.remove(1, 0);
        due("none such any more", x.remove(1, LAST_DAY), 0);
        removeHeld();
        removeGuarded();
    }

    private static void removeHeld() {
        sentence("-5 the name is held or waited for");
        DataSets x = new DataSets(9);
        x.make(0, 1, 0);
        x.make(99, 1, 0);
        x.guard(1, 1);
        x.enqueue(1, 0, false);
        x.enqueue(20, 99, true);
        x.enqueue(1, 99, true);
        due("shared, and its guard is later too", x.remove(0, 0), -5);
        due("alone, and waited for", x.remove(99, 0), -5);
        x.free(20);
        due("by the one who waited", x.remove(99, 0), -5);
        due("nothing went", x.space(2), 2);
        x.free(1);
        due("by no one", x.remove(99, 0), 1);
        due("by no one", x.remove(0, 1), 1);
    }

    private static void removeGuarded() {
        sentence("-9 its guard is a later day");
        long[][] days = {{5, 4}, {0, -1}, {LAST_DAY, LAST_DAY - 1}, {LAST_DAY, FIRST_DAY}, {1, FIRST_DAY},
            {FIRST_DAY + 1, FIRST_DAY}, {LAST_DAY, -1}, {1L << 32, 0}, {1L << 32, (1L << 32) - 1}, {1L << 31, 1}};
        for (long[] row : days) {
            DataSets x = new DataSets(1);
            x.make(1, 1, 0);
            x.guard(1, row[0]);
            due("on " + row[1] + ", its guard " + row[0], x.remove(1, row[1]), -9);
            due("it is there", x.find(1), 1);
            due("on the very day " + row[0], x.remove(1, row[0]), 1);
        }
        long[][] later = {{4, 5}, {-1, 0}, {FIRST_DAY, LAST_DAY}, {-2, LAST_DAY}, {FIRST_DAY, 1}, {0, 1L << 32}};
        for (long[] row : later) {
            DataSets x = new DataSets(1);
            x.make(1, 1, 0);
            x.guard(1, row[0]);
            due("on " + row[1] + ", its guard " + row[0], x.remove(1, row[1]), 1);
        }
    }

    private static void promise8() {
        sentence("A set's guard becomes a day: 1; -2.");
        DataSets x = new DataSets(9);
        x.make(1, 1, 0);
        x.make(2, 1, 0);
        due("the last day", x.guard(1, LAST_DAY), 1);
        due("the other one's is not", x.remove(2, 0), 1);
        due("an earlier day again", x.guard(1, 3), 1);
        due("a day before", x.remove(1, 2), -9);
        due("the least day again", x.guard(1, FIRST_DAY), 1);
        for (int set : NO_SETS) {
            due("set " + set, x.guard(set, LAST_DAY), -2);
        }
        due("not any more", x.guard(2, 0), -2);
        due("not yet", x.guard(3, LAST_DAY), -2);
        x.make(3, 1, 0);
        sentence("At first the least day there is.");
        due("a guard told before it was made", x.remove(3, FIRST_DAY), 1);
        due("on the least day", x.remove(1, FIRST_DAY), 1);
    }

    private static void promise9() {
        sentence("A set's name becomes another one: 1");
        DataSets x = new DataSets(9);
        x.make(50, 1, 0);
        due("to the least", x.rename(50, 0), 1);
        due("to the most", x.rename(0, 99), 1);
        due("its number stays", x.find(99), 1);
        due("back to one that it had", x.rename(99, 50), 1);
        sentence("0 no such name");
        due("none such", x.rename(49, 48), 0);
        for (int name : NO_NAMES) {
            due("name " + name, x.rename(name, 48), 0);
            due("none such, to " + name, x.rename(49, name), 0);
        }
        due("none such, the same", x.rename(49, 49), 0);
        due("none such, to one that is there", x.rename(49, 50), 0);
        sentence("-4 to is not 0 .. 99");
        for (int to : NO_NAMES) {
            due("to " + to, x.rename(50, to), -4);
        }
        x.enqueue(1, 50, true);
        due("held too", x.rename(50, 100), -4);
        renameToThere();
        renameHeld();
    }

    private static void renameToThere() {
        sentence("-3 to is there (also the same)");
        DataSets x = new DataSets(9);
        x.make(0, 1, 0);
        x.make(99, 1, 0);
        due("there", x.rename(0, 99), -3);
        due("there", x.rename(99, 0), -3);
        due("the same", x.rename(0, 0), -3);
        due("the same", x.rename(99, 99), -3);
        x.enqueue(1, 99, false);
        due("there, and held too", x.rename(0, 99), -3);
        due("the same, and held too", x.rename(99, 99), -3);
        x.free(1);
        x.remove(99, 0);
        due("not there any more", x.rename(0, 99), 1);
    }

    private static void renameHeld() {
        sentence("-5 one of both names is held or waited for");
        DataSets x = new DataSets(9);
        x.make(0, 1, 0);
        x.make(1, 1, 0);
        x.enqueue(1, 0, false);
        x.enqueue(2, 99, true);
        x.enqueue(3, 99, false);
        due("the one", x.rename(0, 50), -5);
        due("the other", x.rename(1, 99), -5);
        due("both", x.rename(0, 99), -5);
        x.free(2);
        due("by the one who waited", x.rename(1, 99), -5);
        due("neither", x.rename(1, 50), 1);
        due("nothing else was renamed", x.find(0), 1);
        x.free(1);
        x.free(3);
        due("by no one", x.rename(0, 99), 1);
        x.guard(1, LAST_DAY);
        due("a guard does not hold it", x.rename(99, 0), 1);
    }

    private static void promise10() {
        sentence("A source tells an attribute: 1; -2");
        DataSets x = new DataSets(9);
        x.make(1, 1, 0);
        due("least source, least attribute", x.attribute(1, 0, 0, MIN), 1);
        due("most source, most attribute", x.attribute(1, 2, 9, MAX), 1);
        due("the least value", x.merged(1, 0), MIN);
        due("the most value", x.merged(1, 9), MAX);
        for (int set : NO_SETS) {
            due("set " + set, x.attribute(set, 0, 0, 0), -2);
        }
        due("not yet, and -4 too", x.attribute(2, 3, 10, 0), -2);
        sentence("-4 source or what is not so");
        int[] outside = {MIN, MIN + 1, -256, -10, -1, 10, 11, 256, 65536, MAX};
        for (int n : outside) {
            due("source " + n, x.attribute(1, n, 0, 0), -4);
            due("what " + n, x.attribute(1, 0, n, 0), -4);
        }
        due("source 3", x.attribute(1, 3, 0, 0), -4);
        due("source 1, what -10", x.attribute(1, 1, -10, 0), -4);
        due("source -1, what 10", x.attribute(1, -1, 10, 0), -4);
        for (int what = 1; what <= 8; what++) {
            due("nothing is told of " + what, x.merged(1, what), -1);
        }
        due("nothing is told anew", x.merged(1, 0), MIN);
        x.remove(1, 0);
        due("not any more", x.attribute(1, 0, 0, 0), -2);
    }

    private static void promise11() {
        sentence("NONE when no source tells it, or there is none such");
        DataSets x = new DataSets(9);
        x.make(1, 1, 0);
        for (int what = 0; what <= 9; what++) {
            due("no one tells " + what, x.merged(1, what), -1);
        }
        for (int what = 0; what <= 9; what++) {
            x.attribute(1, what % 3, what, 70 + what);
        }
        int[] outside = {MIN, MIN + 1, -256, -10, -1, 10, 11, 20, 29, 30, 256, 65536, MAX};
        for (int what : outside) {
            due("attribute " + what, x.merged(1, what), -1);
        }
        for (int set : NO_SETS) {
            due("set " + set, x.merged(set, 0), -1);
        }
        due("not yet", x.merged(2, 0), -1);
        x.attribute(1, 0, 5, -1);
        due("-1 that source 0 tells, before the label's", x.merged(1, 5), -1);
        due("the first attribute", x.merged(1, 0), 70);
        due("the last attribute", x.merged(1, 9), 79);
        x.remove(1, 0);
        due("not any more", x.merged(1, 0), -1);
    }

    private static void promise12() {
        sentence("A job asks for a name: 1 it has it; 0 it waits");
        DataSets x = new DataSets(1);
        due("least job, least name", x.enqueue(1, 0, true), 1);
        due("most job, most name", x.enqueue(20, 99, true), 1);
        due("most job waits", x.enqueue(20, 0, false), 0);
        due("least job waits", x.enqueue(1, 99, false), 0);
        sentence("-4");
        for (int job : NO_JOBS) {
            due("job " + job, x.enqueue(job, 50, false), -4);
        }
        for (int name : NO_NAMES) {
            due("name " + name, x.enqueue(2, name, false), -4);
        }
        due("neither", x.enqueue(0, 100, true), -4);
        due("no more holdings", x.space(4), 2);
        due("no more who wait", x.space(5), 2);
        sentence("-5 it holds it, or waits for it, already");
        due("holds it alone, asks alone", x.enqueue(1, 0, true), -5);
        due("holds it alone, asks shared", x.enqueue(1, 0, false), -5);
        due("waits for it, asks shared", x.enqueue(20, 0, false), -5);
        due("waits for it, asks alone", x.enqueue(20, 0, true), -5);
        x.enqueue(5, 50, false);
        due("holds it shared, asks shared", x.enqueue(5, 50, false), -5);
        due("holds it shared, asks alone", x.enqueue(5, 50, true), -5);
        due("it is still held shared", x.enqueue(6, 50, false), 1);
        due("freed", x.free(5), 1);
        due("freed, it may ask again", x.enqueue(5, 50, false), 1);
        due("no more holdings than those", x.space(4), 4);
    }

    private static void promise13() {
        sentence("A job holds and waits for nothing any more: how many names it held");
        DataSets x = new DataSets(1);
        due("nothing", x.free(1), 0);
        for (int name = 0; name < 100; name++) {
            x.enqueue(1, name, true);
        }
        x.enqueue(20, 0, true);
        x.enqueue(20, 99, true);
        due("one who only waits", x.free(20), 0);
        due("waits for nothing any more", x.space(5), 0);
        x.enqueue(20, 99, false);
        due("all names", x.free(1), 100);
        due("holds nothing any more", x.free(1), 0);
        due("the one who waited holds it", x.space(4), 1);
        due("it held one", x.free(20), 1);
        due("no one holds any", x.space(4), 0);
        sentence("-4");
        x.enqueue(1, 5, true);
        for (int job : NO_JOBS) {
            due("job " + job, x.free(job), -4);
        }
        due("no one is freed by that", x.space(4), 1);
        freeOneWhoWaits();
    }

    private static void freeOneWhoWaits() {
        sentence("When a job is freed, of each name those who wait get it");
        DataSets x = new DataSets(1);
        x.enqueue(1, 5, false);
        x.enqueue(2, 5, true);
        x.enqueue(3, 5, false);
        x.enqueue(4, 5, true);
        due("2 only waited", x.free(2), 0);
        due("3 shares it with 1 now", x.space(4), 2);
        due("4 waits still", x.space(5), 1);
        due("4 only waited", x.free(4), 0);
        due("none waits", x.space(5), 0);
        due("shared at once again", x.enqueue(6, 5, false), 1);
    }

    private static void promise14() {
        sentence("Members come one behind the other, in the order in which they lie, from the set's first track on");
        DataSets x = new DataSets(12);
        x.make(1, 3, 0);
        x.make(2, 2, 4);
        x.remove(1, 0);
        x.extend(2);
        x.make(3, 3, 0);
        x.member(2, 9, 1);
        x.member(2, 1, 1);
        x.member(2, 5, 2);
        x.member(2, 9, 2);
        due("9 lies behind 5", x.track(2, 9), 7);
        due("1 lies where it lay", x.track(2, 1), 4);
        due("5 lies where it lay", x.track(2, 5), 5);
        due("1 lost", x.compress(2), 1);
        due("1 is the set's first", x.track(2, 1), 3);
        due("5, over the border", x.track(2, 5), 4);
        due("9, in the second extent", x.track(2, 9), 6);
        sentence("how many tracks are won (given to none now that were given, or lost, before)");
        DataSets y = new DataSets(9);
        y.make(1, 8, 0);
        due("no members", y.compress(1), 0);
        y.member(1, 1, 0);
        due("one of no tracks", y.compress(1), 0);
        y.member(1, 1, 4);
        due("nothing lost", y.compress(1), 0);
        y.member(1, 1, 4);
        due("half of a full set", y.compress(1), 4);
        due("again", y.compress(1), 0);
        y.member(1, 1, 0);
        due("all of it", y.compress(1), 4);
        due("the set keeps them", y.space(0), 1);
        due("to be given", y.member(1, 2, 8), 1);
        sentence("-2");
        for (int set : NO_SETS) {
            due("set " + set, y.compress(set), -2);
        }
        due("not yet", y.compress(2), -2);
        y.remove(1, 0);
        due("not any more", y.compress(1), -2);
    }

    private static void promise15() {
        sentence("Tracks behind all that were ever given (since the latest compressing) are free again");
        DataSets x = new DataSets(20);
        x.make(1, 5, 5);
        x.extend(1);
        x.member(1, 1, 5);
        x.member(1, 1, 4);
        due("one behind them", x.release(1), 1);
        due("none behind them", x.release(1), 0);
        due("no track left to give", x.member(1, 2, 1), -8);
        due("5 lost", x.compress(1), 5);
        due("5 since then", x.release(1), 5);
        due("the member stays", x.track(1, 1), 0);
        due("four tracks stay", x.extent(1, 0, 1), 4);
        due("16 are free", x.space(1), 16);
        releaseButTheFirst();
        releaseExtentsWithoutTracks();
        sentence("-2");
        for (int set : NO_SETS) {
            due("set " + set, x.release(set), -2);
        }
        due("not yet", x.release(2), -2);
        x.remove(1, 0);
        due("not any more", x.release(1), -2);
    }

    private static void releaseButTheFirst() {
        sentence("but the first track of the set: how many");
        DataSets x = new DataSets(500);
        x.make(1, 500, 0);
        due("no members: all but one", x.release(1), 499);
        due("the first stays", x.extent(1, 0, 0), 0);
        due("one track", x.extent(1, 0, 1), 1);
        due("not that one", x.release(1), 0);
        due("the set is there", x.find(1), 1);
        due("the one can be given", x.member(1, 1, 1), 1);
        due("no other one", x.member(1, 2, 1), -8);
        DataSets y = new DataSets(6);
        y.make(1, 2, 0);
        y.make(2, 2, 2);
        y.remove(1, 0);
        y.extend(2);
        y.member(2, 1, 0);
        due("a member of no tracks", y.release(2), 3);
        due("the set's first, not the volume's", y.extent(2, 0, 0), 2);
        due("free before it and behind it", y.space(0), 5);
        due("3 one behind the other", y.space(1), 3);
        y.member(2, 1, 1);
        due("one given is the first one", y.release(2), 0);
    }

    private static void releaseExtentsWithoutTracks() {
        sentence("Extents without tracks go.");
        DataSets x = new DataSets(16);
        x.make(1, 1, 1);
        for (int i = 2; i <= 16; i++) {
            x.extend(1);
        }
        x.member(1, 1, 15);
        due("the last extent", x.release(1), 1);
        due("goes", x.extent(1, 15, 0), -1);
        due("15 stay", x.space(3), 15);
        due("one more again", x.extend(1), 16);
        x.member(1, 1, 0);
        due("15 lost", x.compress(1), 15);
        due("all extents but the first", x.release(1), 15);
        due("go", x.space(3), 1);
        DataSets y = new DataSets(9);
        y.make(1, 3, 3);
        y.extend(1);
        y.extend(1);
        y.member(1, 1, 3);
        due("cut at an extent's end", y.release(1), 6);
        due("one stays whole", y.extent(1, 0, 1), 3);
        due("no second one", y.extent(1, 1, 1), -1);
        y.extend(1);
        y.member(1, 2, 1);
        due("cut behind an extent's first", y.release(1), 2);
        due("two stay", y.space(3), 2);
        due("the second of one track", y.extent(1, 1, 1), 1);
    }

    private static void promise16() {
        sentence("0 free tracks, 1 the most free ones one behind the other");
        DataSets x = gapsOfOneTwoThreeTwo();
        due("free", x.space(0), 8);
        due("the most lie in the midst", x.space(1), 3);
        x.make(50, 1, 0);
        x.make(51, 2, 0);
        x.make(52, 3, 0);
        due("the most lie at the end", x.space(1), 2);
        x.make(53, 2, 0);
        due("none free", x.space(0), 0);
        due("none free", x.space(1), 0);
        x.remove(50, 0);
        due("one free, at the beginning", x.space(1), 1);
        x.remove(53, 0);
        due("no wrap-around from the end to the beginning", x.space(1), 2);
        spaceOfSetsAndHoldings();
        sentence("NONE for others");
        int[] others = {MIN, MIN + 1, -256, -6, -2, -1, 6, 7, 256, 65536, MAX};
        for (int what : others) {
            due("space " + what, x.space(what), -1);
        }
    }

    private static void spaceOfSetsAndHoldings() {
        sentence("2 sets that are there, 3 extents in all, 4 holdings, 5 who wait, in all");
        DataSets x = new DataSets(61);
        for (int what = 2; what <= 5; what++) {
            due("nothing at first, " + what, x.space(what), 0);
        }
        for (int name = 0; name < 60; name++) {
            x.make(name, 1, name == 59 ? 1 : 0);
        }
        x.extend(60);
        due("60 sets", x.space(2), 60);
        due("61 extents", x.space(3), 61);
        x.remove(0, 0);
        x.remove(59, 0);
        due("the first and the last one less", x.space(2), 58);
        due("their extents less", x.space(3), 58);
        for (int job = 1; job <= 20; job++) {
            x.enqueue(job, 0, false);
            x.enqueue(job, 99, true);
        }
        due("20 share one, one has the other", x.space(4), 21);
        due("19 wait", x.space(5), 19);
        x.free(1);
        due("1 less, and one who waited more", x.space(4), 20);
        due("one less waits", x.space(5), 18);
    }

    private static void promise17() {
        sentence("Of a set's i-th extent, from 0 on: what = 0 its first track, 1 how many");
        DataSets x = new DataSets(500);
        x.make(1, 469, 2);
        for (int i = 2; i <= 16; i++) {
            x.extend(1);
        }
        due("the least first", x.extent(1, 0, 0), 0);
        due("469 tracks", x.extent(1, 0, 1), 469);
        due("the 16th's first", x.extent(1, 15, 0), 497);
        due("the 16th's length", x.extent(1, 15, 1), 2);
        sentence("NONE when there is none such");
        int[] noExtents = {MIN, MIN + 1, -256, -16, -1, 16, 17, 256, 65536, MAX};
        for (int i : noExtents) {
            due("extent " + i, x.extent(1, i, 0), -1);
            due("extent " + i, x.extent(1, i, 1), -1);
        }
        int[] noWhats = {MIN, MIN + 1, -256, -2, -1, 2, 3, 256, 257, 65536, MAX};
        for (int what : noWhats) {
            due("what " + what, x.extent(1, 0, what), -1);
        }
        for (int set : NO_SETS) {
            due("set " + set, x.extent(set, 0, 0), -1);
        }
        due("not yet", x.extent(2, 0, 0), -1);
        x.make(2, 1, 0);
        due("a second one of a set with one", x.extent(2, 1, 0), -1);
        x.release(1);
        due("a 16th that went", x.extent(1, 15, 0), -1);
        x.remove(1, 0);
        due("not any more", x.extent(1, 0, 1), -1);
    }
}
