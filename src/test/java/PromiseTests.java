/** For each promise of the document: ordinary inputs, the edges that it names, and wrong inputs. */
public final class PromiseTests {
    private static final int[] WILD = {Integer.MIN_VALUE, -1000, -1, 501, 1000, Integer.MAX_VALUE};
    private static int calls = 0;
    private static int wrong = 0;

    private static void due(String call, long got, long want) {
        calls++;
        if (got != want) {
            wrong++;
            System.out.println(call + " answered " + got + ", due is " + want);
        }
    }

    public static void main(String[] args) {
        promise1NewObject();
        promise2Make();
        promise2MakeFirstFault();
        promise2MakeSixty();
        promise2FirstFit();
        promise3Extend();
        promise3ExtendSixteen();
        promise4Find();
        promise5Member();
        promise5MemberThirteenth();
        promise5MemberTwelveOfAnyName();
        promise5MemberSpace();
        promise6Track();
        promise7Remove();
        promise7RemoveOrder();
        promise8Guard();
        promise9Rename();
        promise9RenameOrder();
        promise10Attribute();
        promise11Merged();
        promise12Enqueue();
        promise12EnqueueWrong();
        promise13Free();
        promise13FreeOneWhoWaits();
        promise13FreeAllJobs();
        promise13FreeManyNames();
        promise14Compress();
        promise14CompressOverExtents();
        promise15Release();
        promise15ReleaseInsideExtent();
        promise15ReleaseThenMore();
        promise16Space();
        promise17Extent();
        removedSetIsGone();
        System.out.println(calls + " answers looked at, " + wrong + " not as due");
        if (wrong != 0) {
            System.exit(1);
        }
    }

    private static void promise1NewObject() {
        int[][] held = {{1, 1}, {2, 2}, {499, 499}, {500, 500}, {501, 500}, {0, 1}, {-1, 1},
            {Integer.MIN_VALUE, 1}, {Integer.MAX_VALUE, 500}};
        for (int[] row : held) {
            DataSets x = new DataSets(row[0]);
            due("1: free tracks of " + row[0], x.space(0), row[1]);
            due("1: longest run of " + row[0], x.space(1), row[1]);
            for (int what = 2; what <= 5; what++) {
                due("1: space(" + what + ") of " + row[0], x.space(what), 0);
            }
        }
        due("1: NONE", DataSets.NONE, -1);
    }

    private static void promise2Make() {
        DataSets x = new DataSets(500);
        due("2: make(0, 1, 0)", x.make(0, 1, 0), 1);
        due("2: make(99, 1, 500)", x.make(99, 1, 500), 2);
        due("2: make(5, 498, 1)", x.make(5, 498, 1), 3);
        due("2: full", x.space(0), 0);
        DataSets whole = new DataSets(500);
        due("2: make(1, 500, 0)", whole.make(1, 500, 0), 1);
        due("2: extent length", whole.extent(1, 0, 1), 500);
    }

    private static void promise2MakeFirstFault() {
        DataSets x = new DataSets(3);
        due("2: name -1", x.make(-1, 1, 0), -4);
        due("2: name 100", x.make(100, 1, 0), -4);
        due("2: first 0", x.make(1, 0, 0), -4);
        due("2: further -1", x.make(1, 1, -1), -4);
        for (int w : WILD) {
            due("2: first " + w, x.make(1, w, 0), -4);
            due("2: further " + w, x.make(1, 1, w), -4);
            due("2: name " + w, x.make(w, 1, 0), -4);
        }
        due("2: nothing made", x.space(2), 0);
        due("2: first 500 on 3", x.make(1, 500, 500), -8);
        due("2: the first number", x.make(1, 2, 0), 1);
        due("2: -4 before -3", x.make(1, 0, 0), -4);
        due("2: -3 before -8", x.make(1, 2, 0), -3);
        due("2: -8", x.make(2, 2, 0), -8);
        due("2: faults take no number", x.make(2, 1, 0), 2);
    }

    private static void promise2MakeSixty() {
        DataSets x = new DataSets(61);
        for (int i = 1; i <= 60; i++) {
            due("2: set " + i, x.make(i, 1, 0), i);
        }
        due("2: 61st", x.make(61, 1, 0), -1);
        due("2: -3 before NONE", x.make(60, 1, 0), -3);
        due("2: -8 before NONE", x.make(61, 2, 0), -8);
        due("2: -4 before NONE", x.make(100, 1, 0), -4);
        due("2: no track taken", x.space(0), 1);
        due("2: remove", x.remove(7, 0), 1);
        due("2: numbers are not given again", x.make(7, 1, 0), -1);
        due("2: 60 less one", x.space(2), 59);
        due("2: find 60", x.find(60), 60);
        due("2: the 60th is a set as all", x.extent(60, 0, 0), 59);
        due("2: and takes members", x.member(60, 1, 1), 1);
    }

    private static void promise2FirstFit() {
        DataSets x = new DataSets(12);
        x.make(1, 2, 0);
        x.make(2, 2, 0);
        x.make(3, 3, 0);
        x.make(4, 1, 0);
        x.remove(1, 0);
        x.remove(3, 0);
        due("2: too long for the first gap", x.make(5, 3, 0), 5);
        due("2: in the second gap", x.extent(5, 0, 0), 4);
        due("2: short one", x.make(6, 1, 0), 6);
        due("2: in the first gap", x.extent(6, 0, 0), 0);
        due("2: the last four", x.make(7, 4, 0), 7);
        due("2: up to the end", x.extent(7, 0, 0), 8);
        due("2: one left", x.space(0), 1);
        due("2: one left is 1", x.make(8, 1, 0), 8);
        due("2: at 1", x.extent(8, 0, 0), 1);
    }

    private static void promise3Extend() {
        DataSets x = new DataSets(10);
        x.make(1, 2, 3);
        x.make(2, 1, 0);
        due("3: extend", x.extend(1), 2);
        due("3: its first", x.extent(1, 1, 0), 3);
        due("3: its length", x.extent(1, 1, 1), 3);
        due("3: next to another one, still one more", x.extend(1), 3);
        due("3: its first", x.extent(1, 2, 0), 6);
        due("3: the other's length stays", x.extent(1, 1, 1), 3);
        due("3: no space", x.extend(1), -8);
        due("3: nothing taken", x.space(0), 1);
        due("3: further is 0", x.extend(2), -7);
        due("3: set 0", x.extend(0), -2);
        due("3: set 3", x.extend(3), -2);
        for (int w : WILD) {
            due("3: set " + w, x.extend(w), -2);
        }
        x.remove(2, 0);
        due("3: removed", x.extend(2), -2);
        due("3: set 61", x.extend(61), -2);
        due("3: set 60", x.extend(60), -2);
    }

    private static void promise3ExtendSixteen() {
        DataSets x = new DataSets(16);
        x.make(1, 1, 1);
        for (int i = 2; i <= 16; i++) {
            due("3: extent " + i, x.extend(1), i);
        }
        due("3: -7 before -8", x.extend(1), -7);
        due("3: 16 extents", x.space(3), 16);
        DataSets y = new DataSets(100);
        y.make(1, 1, 2);
        for (int i = 2; i <= 16; i++) {
            y.extend(1);
        }
        due("3: a 17th, with space", y.extend(1), -7);
        due("3: the last one's first", y.extent(1, 15, 0), 29);
        DataSets z = new DataSets(1);
        z.make(1, 1, 0);
        due("3: further 0 before no space", z.extend(1), -7);
    }

    private static void promise4Find() {
        DataSets x = new DataSets(10);
        due("4: none", x.find(3), 0);
        x.make(3, 1, 0);
        x.make(0, 1, 0);
        x.make(99, 1, 0);
        due("4: 3", x.find(3), 1);
        due("4: 0", x.find(0), 2);
        due("4: 99", x.find(99), 3);
        due("4: 100", x.find(100), 0);
        for (int w : WILD) {
            due("4: " + w, x.find(w), 0);
        }
        x.remove(3, 0);
        due("4: removed", x.find(3), 0);
        x.make(3, 1, 0);
        due("4: made again", x.find(3), 4);
        x.rename(3, 4);
        due("4: old name", x.find(3), 0);
        due("4: new name", x.find(4), 4);
    }

    private static void promise5Member() {
        DataSets x = new DataSets(10);
        x.make(1, 10, 0);
        due("5: member", x.member(1, 0, 2), 1);
        due("5: no tracks", x.member(1, 99, 0), 1);
        due("5: name -1", x.member(1, -1, 1), -4);
        due("5: name 100", x.member(1, 100, 1), -4);
        due("5: n -1", x.member(1, 1, -1), -4);
        due("5: n 501", x.member(1, 1, 501), -4);
        due("5: n 500 is too much, not wrong", x.member(1, 1, 500), -8);
        for (int w : WILD) {
            due("5: n " + w, x.member(1, 1, w), -4);
            due("5: name " + w, x.member(1, w, 1), -4);
            due("5: set " + w, x.member(w, 1, 1), -2);
        }
        due("5: -2 before -4", x.member(2, 100, -1), -2);
        due("5: -2 for 0", x.member(0, 1, 1), -2);
        due("5: the rest", x.member(1, 2, 8), 1);
        due("5: none left", x.member(1, 3, 1), -8);
        due("5: none needed", x.member(1, 3, 0), 1);
        due("5: members are no sets", x.find(2), 0);
        DataSets y = new DataSets(500);
        y.make(1, 500, 0);
        due("5: n 500", y.member(1, 1, 500), 1);
    }

    private static void promise5MemberThirteenth() {
        DataSets x = new DataSets(40);
        x.make(1, 20, 0);
        x.make(2, 1, 0);
        for (int i = 0; i < 12; i++) {
            due("5: member " + i, x.member(1, i, i == 11 ? 0 : 1), 1);
        }
        due("5: a 13th", x.member(1, 12, 1), -6);
        due("5: a 13th without tracks", x.member(1, 12, 0), -6);
        due("5: -4 before -6", x.member(1, 100, 0), -4);
        due("5: -6 before -8", x.member(1, 12, 400), -6);
        due("5: one of the twelve again", x.member(1, 11, 3), 1);
        due("5: its track", x.track(1, 11), 11);
        due("5: the first again", x.member(1, 0, 2), 1);
        due("5: its track", x.track(1, 0), 14);
        due("5: too much, of the twelve", x.member(1, 0, 5), -8);
        due("5: another set has its own", x.member(2, 12, 1), 1);
        due("5: compress", x.compress(1), 1);
        due("5: still twelve", x.member(1, 12, 0), -6);
    }

    private static void promise5MemberTwelveOfAnyName() {
        DataSets x = new DataSets(40);
        x.make(1, 20, 0);
        for (int name = 88; name < 100; name++) {
            due("5: member " + name, x.member(1, name, 1), 1);
        }
        due("5: a 13th of name 0", x.member(1, 0, 0), -6);
        due("5: not there", x.track(1, 0), -1);
    }

    private static void promise5MemberSpace() {
        DataSets x = new DataSets(20);
        x.make(1, 5, 2);
        due("5: 3 of 5", x.member(1, 1, 3), 1);
        due("5: again 3, the old ones are lost", x.member(1, 1, 3), -8);
        due("5: it has its old ones", x.track(1, 1), 0);
        due("5: again 2", x.member(1, 1, 2), 1);
        due("5: behind", x.track(1, 1), 3);
        due("5: full", x.member(1, 2, 1), -8);
        due("5: refused ones are not there", x.track(1, 2), -1);
        x.extend(1);
        due("5: more space", x.member(1, 2, 2), 1);
        due("5: in the new extent", x.track(1, 2), 5);
        due("5: full again", x.member(1, 3, 1), -8);
        due("5: compress", x.compress(1), 3);
        due("5: won", x.member(1, 3, 3), 1);
        due("5: won, where", x.track(1, 3), 4);
        due("5: given up", x.member(1, 3, 0), 1);
        due("5: no tracks now", x.track(1, 3), -1);
        due("5: given up is lost", x.member(1, 4, 1), -8);
    }

    private static void promise6Track() {
        DataSets x = new DataSets(30);
        x.make(1, 3, 2);
        x.make(2, 4, 0);
        x.extend(1);
        x.extend(1);
        x.member(1, 10, 2);
        x.member(1, 11, 1);
        x.member(1, 12, 1);
        x.member(1, 13, 2);
        x.member(1, 14, 1);
        due("6: first", x.track(1, 10), 0);
        due("6: last of the first extent", x.track(1, 11), 2);
        due("6: first of the second", x.track(1, 12), 7);
        due("6: over the border", x.track(1, 13), 8);
        due("6: last of the third", x.track(1, 14), 10);
        due("6: no such member", x.track(1, 15), -1);
        due("6: no tracks", x.member(1, 15, 0), 1);
        due("6: no tracks", x.track(1, 15), -1);
        due("6: another set", x.track(2, 10), -1);
        due("6: no such set", x.track(3, 10), -1);
        due("6: set 0", x.track(0, 10), -1);
        for (int w : WILD) {
            due("6: name " + w, x.track(1, w), -1);
            due("6: set " + w, x.track(w, 10), -1);
        }
        x.remove(1, 0);
        due("6: removed", x.track(1, 10), -1);
        DataSets y = new DataSets(10);
        y.make(1, 2, 0);
        y.make(2, 2, 2);
        y.remove(1, 0);
        y.extend(2);
        y.member(2, 1, 2);
        y.member(2, 2, 2);
        due("6: extents in the order in which they came", y.track(2, 1), 2);
        due("6: the later one stands before", y.track(2, 2), 0);
    }

    private static void promise7Remove() {
        DataSets x = new DataSets(9);
        x.make(1, 2, 2);
        x.make(2, 2, 0);
        x.extend(1);
        due("7: before", x.space(0), 3);
        due("7: no such name", x.remove(3, Long.MAX_VALUE), 0);
        for (int w : WILD) {
            due("7: name " + w, x.remove(w, 0), 0);
        }
        due("7: goes", x.remove(1, Long.MIN_VALUE), 1);
        due("7: all its tracks", x.space(0), 7);
        due("7: longest", x.space(1), 5);
        due("7: again", x.remove(1, 0), 0);
        due("7: sets", x.space(2), 1);
        due("7: extents", x.space(3), 1);
        due("7: the other stays", x.extent(2, 0, 0), 2);
    }

    private static void promise7RemoveOrder() {
        DataSets x = new DataSets(9);
        x.make(1, 1, 0);
        x.guard(1, 5);
        x.enqueue(1, 1, false);
        x.enqueue(2, 1, true);
        x.enqueue(1, 2, true);
        due("7: 0 before -5", x.remove(2, 0), 0);
        due("7: -5 before -9", x.remove(1, 4), -5);
        due("7: held and waited for", x.remove(1, 5), -5);
        x.free(1);
        due("7: held", x.remove(1, 5), -5);
        x.free(2);
        due("7: earlier than its guard", x.remove(1, 4), -9);
        due("7: much earlier", x.remove(1, Long.MIN_VALUE), -9);
        due("7: still there", x.find(1), 1);
        due("7: that day", x.remove(1, 5), 1);
        DataSets y = new DataSets(9);
        y.make(1, 1, 0);
        y.enqueue(3, 2, true);
        due("7: another name is held", y.remove(1, 0), 1);
    }

    private static void promise8Guard() {
        DataSets x = new DataSets(9);
        x.make(1, 1, 0);
        x.make(2, 1, 0);
        x.make(3, 1, 0);
        due("8: guard", x.guard(1, Long.MAX_VALUE), 1);
        due("8: a day before the last", x.remove(1, Long.MAX_VALUE - 1), -9);
        due("8: the last day", x.remove(1, Long.MAX_VALUE), 1);
        due("8: gone", x.guard(1, 0), -2);
        due("8: 0", x.guard(0, 0), -2);
        due("8: 4", x.guard(4, 0), -2);
        for (int w : WILD) {
            due("8: set " + w, x.guard(w, 0), -2);
        }
        due("8: at first the least day", x.remove(2, Long.MIN_VALUE), 1);
        due("8: later", x.guard(3, 0x100000000L), 1);
        due("8: days are long", x.remove(3, 0xFFFFFFFFL), -9);
        due("8: earlier again", x.guard(3, -7), 1);
        due("8: before", x.remove(3, -8), -9);
        due("8: on it", x.remove(3, -7), 1);
        x.make(3, 1, 0);
        due("8: the new one has no guard", x.remove(3, Long.MIN_VALUE), 1);
    }

    private static void promise9Rename() {
        DataSets x = new DataSets(9);
        x.make(1, 3, 1);
        x.member(1, 4, 2);
        x.attribute(1, 0, 0, 6);
        x.guard(1, 3);
        due("9: rename", x.rename(1, 0), 1);
        due("9: find", x.find(0), 1);
        due("9: old", x.find(1), 0);
        due("9: rename to 99", x.rename(0, 99), 1);
        due("9: old one can be made", x.make(1, 1, 0), 2);
        due("9: there", x.rename(1, 99), -3);
        due("9: the same", x.rename(1, 1), -3);
        due("9: members stay", x.track(1, 4), 0);
        due("9: attributes stay", x.merged(1, 0), 6);
        due("9: guard stays", x.remove(99, 2), -9);
        due("9: to -1", x.rename(1, -1), -4);
        due("9: to 100", x.rename(1, 100), -4);
        for (int w : WILD) {
            due("9: to " + w, x.rename(1, w), -4);
            due("9: from " + w, x.rename(w, 50), 0);
        }
        due("9: still", x.find(1), 2);
    }

    private static void promise9RenameOrder() {
        DataSets x = new DataSets(9);
        x.make(1, 1, 0);
        x.make(2, 1, 0);
        due("9: 0 before -4", x.rename(3, 100), 0);
        due("9: 0 before -3", x.rename(3, 1), 0);
        x.enqueue(1, 1, false);
        due("9: -4 before -5", x.rename(1, 100), -4);
        due("9: -3 before -5", x.rename(1, 2), -3);
        due("9: -3 before -5, the same", x.rename(1, 1), -3);
        due("9: name held", x.rename(1, 3), -5);
        due("9: to held, but there", x.rename(2, 1), -3);
        x.free(1);
        due("9: no longer held", x.rename(1, 3), 1);
        x.enqueue(1, 5, true);
        x.enqueue(2, 5, true);
        due("9: to held and waited for", x.rename(3, 5), -5);
        due("9: 0 before -5", x.rename(5, 6), 0);
        x.free(1);
        due("9: to held", x.rename(3, 5), -5);
        x.free(2);
        due("9: to free", x.rename(3, 5), 1);
    }

    private static void promise10Attribute() {
        DataSets x = new DataSets(9);
        x.make(1, 1, 0);
        due("10: least", x.attribute(1, 0, 0, Integer.MIN_VALUE), 1);
        due("10: most", x.attribute(1, 2, 9, Integer.MAX_VALUE), 1);
        due("10: told", x.merged(1, 0), Integer.MIN_VALUE);
        due("10: told", x.merged(1, 9), Integer.MAX_VALUE);
        due("10: source 3", x.attribute(1, 3, 0, 1), -4);
        due("10: what 10", x.attribute(1, 0, 10, 1), -4);
        for (int w : WILD) {
            due("10: source " + w, x.attribute(1, w, 0, 1), -4);
            due("10: what " + w, x.attribute(1, 0, w, 1), -4);
            due("10: set " + w, x.attribute(w, 0, 0, 1), -2);
        }
        due("10: source -1, what 10", x.attribute(1, -1, 10, 1), -4);
        due("10: -2 before -4", x.attribute(2, 3, 10, 1), -2);
        due("10: set 0", x.attribute(0, 0, 0, 1), -2);
        due("10: nothing changed", x.merged(1, 0), Integer.MIN_VALUE);
        x.remove(1, 0);
        due("10: gone", x.attribute(1, 0, 0, 1), -2);
    }

    private static void promise11Merged() {
        DataSets x = new DataSets(9);
        x.make(1, 1, 0);
        x.make(2, 1, 0);
        for (int what = 0; what <= 9; what++) {
            due("11: untold", x.merged(1, what), -1);
            x.attribute(1, 2, what, 20 + what);
            due("11: label", x.merged(1, what), 20 + what);
            x.attribute(1, 1, what, 10 + what);
            due("11: job's text", x.merged(1, what), 10 + what);
            x.attribute(1, 0, what, what);
            due("11: program", x.merged(1, what), what);
            x.attribute(1, 2, what, 30);
            x.attribute(1, 1, what, 31);
            due("11: the program still counts", x.merged(1, what), what);
            x.attribute(1, 0, what, 32 + what);
            due("11: told again", x.merged(1, what), 32 + what);
            due("11: another set", x.merged(2, what), -1);
        }
        due("11: 10", x.merged(1, 10), -1);
        for (int w : WILD) {
            due("11: what " + w, x.merged(1, w), -1);
            due("11: set " + w, x.merged(w, 0), -1);
        }
        x.attribute(2, 0, 4, 0);
        x.attribute(2, 2, 4, 5);
        due("11: 0 is told", x.merged(2, 4), 0);
        x.attribute(2, 0, 5, -1);
        x.attribute(2, 1, 5, 5);
        due("11: -1 is told", x.merged(2, 5), -1);
        x.remove(1, 0);
        due("11: gone", x.merged(1, 0), -1);
        x.make(1, 1, 0);
        due("11: a new one of that name", x.merged(3, 0), -1);
    }

    private static void promise12Enqueue() {
        DataSets x = new DataSets(9);
        due("12: shared", x.enqueue(1, 0, false), 1);
        due("12: shared too", x.enqueue(20, 0, false), 1);
        due("12: alone waits", x.enqueue(2, 0, true), 0);
        due("12: shared behind one who waits", x.enqueue(3, 0, false), 0);
        due("12: alone", x.enqueue(1, 99, true), 1);
        due("12: shared waits", x.enqueue(2, 99, false), 0);
        due("12: alone waits", x.enqueue(3, 99, true), 0);
        due("12: holds", x.space(4), 3);
        due("12: wait", x.space(5), 4);
        due("12: alone where one holds shared", x.enqueue(4, 50, false), 1);
        due("12: alone where one holds shared", x.enqueue(5, 50, true), 0);
        due("12: names need no set", x.find(50), 0);
        due("12: a set may be made of a held name", x.make(50, 1, 0), 1);
        DataSets y = new DataSets(9);
        due("12: job 1 alone", y.enqueue(1, 7, true), 1);
        for (int job = 2; job <= 20; job++) {
            due("12: job " + job, y.enqueue(job, 7, job % 2 == 0), 0);
        }
        due("12: 19 wait", y.space(5), 19);
    }

    private static void promise12EnqueueWrong() {
        DataSets x = new DataSets(9);
        due("12: job 0", x.enqueue(0, 1, false), -4);
        due("12: job 21", x.enqueue(21, 1, false), -4);
        due("12: name -1", x.enqueue(1, -1, false), -4);
        due("12: name 100", x.enqueue(1, 100, false), -4);
        for (int w : WILD) {
            due("12: job " + w, x.enqueue(w, 1, true), -4);
            due("12: name " + w, x.enqueue(1, w, true), -4);
        }
        due("12: holdings", x.space(4), 0);
        x.enqueue(1, 1, false);
        due("12: holds it", x.enqueue(1, 1, false), -5);
        due("12: holds it, asks alone", x.enqueue(1, 1, true), -5);
        x.enqueue(2, 1, true);
        due("12: waits", x.enqueue(2, 1, true), -5);
        due("12: waits, asks shared", x.enqueue(2, 1, false), -5);
        due("12: holdings", x.space(4), 1);
        due("12: waiting", x.space(5), 1);
        due("12: another name", x.enqueue(2, 2, true), 1);
    }

    private static void promise13Free() {
        DataSets x = new DataSets(9);
        due("13: job 0", x.free(0), -4);
        due("13: job 21", x.free(21), -4);
        for (int w : WILD) {
            due("13: job " + w, x.free(w), -4);
        }
        due("13: job 1 holds nothing", x.free(1), 0);
        due("13: job 20 holds nothing", x.free(20), 0);
        x.enqueue(1, 5, true);
        x.enqueue(2, 5, false);
        x.enqueue(3, 5, false);
        x.enqueue(4, 5, true);
        x.enqueue(5, 5, false);
        due("13: free 1", x.free(1), 1);
        due("13: two hold", x.space(4), 2);
        due("13: two wait", x.space(5), 2);
        due("13: free 2", x.free(2), 1);
        due("13: one holds still", x.space(4), 1);
        due("13: 4 waits still", x.enqueue(4, 5, true), -5);
        due("13: two wait still", x.space(5), 2);
        due("13: free 3", x.free(3), 1);
        due("13: 4 holds alone", x.space(4), 1);
        due("13: 5 waits", x.space(5), 1);
        due("13: 3 may ask again, behind 5", x.enqueue(3, 5, true), 0);
        due("13: free 4", x.free(4), 1);
        due("13: 3 waited alone behind 5", x.free(3), 0);
        due("13: free 5", x.free(5), 1);
        due("13: nothing held", x.space(4), 0);
        due("13: nothing waits", x.space(5), 0);
        due("13: at once again", x.enqueue(9, 5, true), 1);
    }

    private static void promise13FreeOneWhoWaits() {
        DataSets x = new DataSets(9);
        x.enqueue(1, 5, false);
        x.enqueue(2, 5, true);
        x.enqueue(3, 5, false);
        x.enqueue(4, 5, false);
        x.enqueue(6, 5, true);
        x.enqueue(7, 5, false);
        due("13: one who waits", x.free(2), 0);
        due("13: those behind get it", x.space(4), 3);
        due("13: up to the next alone", x.space(5), 2);
        due("13: who waits in the midst", x.enqueue(8, 5, true), 0);
        due("13: goes", x.free(7), 0);
        due("13: none gets it", x.space(4), 3);
        x.free(1);
        x.free(3);
        due("13: one still holds", x.space(5), 2);
        due("13: the last of those", x.free(4), 1);
        due("13: alone", x.space(4), 1);
        due("13: one behind", x.space(5), 1);
        due("13: was 6", x.free(6), 1);
        due("13: now 8", x.free(8), 1);
    }

    private static void promise13FreeAllJobs() {
        DataSets x = new DataSets(9);
        for (int job = 1; job <= 20; job++) {
            x.enqueue(job, 7, true);
        }
        for (int job = 1; job <= 20; job++) {
            due("13: who wait before " + job, x.space(5), 20 - job);
            due("13: each in its turn, " + job, x.free(job), 1);
        }
        due("13: none left", x.space(4), 0);
        for (int job = 20; job >= 1; job--) {
            due("13: asks again, " + job, x.enqueue(job, 7, false), 1);
        }
        due("13: the last one", x.free(1), 1);
        due("13: asks again", x.enqueue(1, 7, false), 1);
    }

    private static void promise13FreeManyNames() {
        DataSets x = new DataSets(9);
        for (int name = 0; name < 100; name++) {
            due("13: held", x.enqueue(1, name, true), 1);
            due("13: waits", x.enqueue(2, name, name % 2 == 0), 0);
        }
        x.enqueue(3, 99, false);
        due("13: all names", x.free(1), 100);
        due("13: holdings", x.space(4), 101);
        due("13: waiting", x.space(5), 0);
        due("13: all names of the next", x.free(2), 100);
        due("13: one more", x.free(3), 1);
        due("13: again", x.free(2), 0);
    }

    private static void promise14Compress() {
        DataSets x = new DataSets(30);
        x.make(1, 20, 0);
        due("14: no members", x.compress(1), 0);
        x.member(1, 1, 3);
        x.member(1, 2, 2);
        x.member(1, 3, 4);
        due("14: nothing lost", x.compress(1), 0);
        due("14: 3 stays", x.track(1, 3), 5);
        x.member(1, 1, 1);
        x.member(1, 2, 0);
        due("14: lost 3 and 2", x.compress(1), 5);
        due("14: 3 is first now", x.track(1, 3), 0);
        due("14: 1 behind", x.track(1, 1), 4);
        due("14: 2 has none", x.track(1, 2), -1);
        due("14: again", x.compress(1), 0);
        due("14: 2 again", x.member(1, 2, 1), 1);
        due("14: behind all", x.track(1, 2), 5);
        x.member(1, 3, 0);
        x.member(1, 1, 0);
        x.member(1, 2, 0);
        due("14: all lost", x.compress(1), 6);
        due("14: from the first on", x.member(1, 1, 20), 1);
        due("14: from the first on", x.track(1, 1), 0);
        due("14: tracks stay the set's", x.space(0), 10);
        due("14: 0", x.compress(0), -2);
        due("14: 2", x.compress(2), -2);
        for (int w : WILD) {
            due("14: set " + w, x.compress(w), -2);
        }
        x.remove(1, 0);
        due("14: gone", x.compress(1), -2);
    }

    private static void promise14CompressOverExtents() {
        DataSets x = new DataSets(30);
        x.make(1, 3, 3);
        x.make(2, 5, 0);
        x.extend(1);
        x.member(1, 9, 2);
        x.member(1, 8, 2);
        x.member(1, 9, 2);
        due("14: 8 over the border", x.track(1, 8), 2);
        due("14: 9 in the second", x.track(1, 9), 9);
        due("14: won", x.compress(1), 2);
        due("14: 8 first", x.track(1, 8), 0);
        due("14: 9 over the border", x.track(1, 9), 2);
        due("14: room for two", x.member(1, 7, 2), 1);
        due("14: 7", x.track(1, 7), 9);
    }

    private static void promise15Release() {
        DataSets x = new DataSets(30);
        x.make(1, 4, 3);
        x.extend(1);
        x.extend(1);
        due("15: nothing given, all but the first", x.release(1), 9);
        due("15: one extent", x.space(3), 1);
        due("15: of one track", x.extent(1, 0, 1), 1);
        due("15: no second one", x.extent(1, 1, 0), -1);
        due("15: free", x.space(0), 29);
        due("15: again", x.release(1), 0);
        due("15: a member of one", x.member(1, 1, 1), 1);
        due("15: no more", x.member(1, 2, 1), -8);
        due("15: nothing to release", x.release(1), 0);
        due("15: 0", x.release(0), -2);
        due("15: 2", x.release(2), -2);
        for (int w : WILD) {
            due("15: set " + w, x.release(w), -2);
        }
        x.remove(1, 0);
        due("15: gone", x.release(1), -2);
        due("15: all free", x.space(0), 30);
    }

    private static void promise15ReleaseInsideExtent() {
        DataSets x = new DataSets(30);
        x.make(1, 4, 5);
        x.make(2, 1, 0);
        x.extend(1);
        x.extend(1);
        x.member(1, 1, 3);
        x.member(1, 1, 3);
        due("15: lost ones stay", x.release(1), 8);
        due("15: two extents", x.space(3), 3);
        due("15: the first is whole", x.extent(1, 0, 1), 4);
        due("15: the second is cut", x.extent(1, 1, 1), 2);
        due("15: its first track stays", x.extent(1, 1, 0), 5);
        due("15: the freed ones are free", x.make(3, 23, 0), 3);
        due("15: where", x.extent(3, 0, 0), 7);
        due("15: member stays", x.track(1, 1), 3);
        due("15: compress", x.compress(1), 3);
        due("15: release what was won", x.release(1), 3);
        due("15: cut", x.extent(1, 0, 1), 3);
        due("15: gone", x.extent(1, 1, 1), -1);
        due("15: member", x.track(1, 1), 0);
        due("15: two more and one", x.space(0), 3);
        due("15: longest", x.space(1), 2);
    }

    private static void promise15ReleaseThenMore() {
        DataSets x = new DataSets(40);
        x.make(1, 2, 1);
        for (int i = 2; i <= 16; i++) {
            x.extend(1);
        }
        x.member(1, 1, 3);
        due("15: 14 go", x.release(1), 14);
        due("15: extend again", x.extend(1), 3);
        due("15: member in it", x.member(1, 2, 1), 1);
        due("15: where", x.track(1, 2), 3);
        DataSets y = new DataSets(40);
        y.make(1, 5, 4);
        y.member(1, 1, 2);
        y.release(1);
        y.make(2, 1, 0);
        due("15: behind the other", y.extend(1), 2);
        due("15: from", y.extent(1, 1, 0), 3);
        y.member(1, 2, 4);
        due("15: third track of the set", y.track(1, 2), 3);
    }

    private static void promise16Space() {
        DataSets x = new DataSets(20);
        x.make(1, 4, 2);
        x.make(2, 3, 0);
        x.make(3, 5, 0);
        x.extend(1);
        x.enqueue(1, 1, false);
        x.enqueue(2, 1, false);
        x.enqueue(3, 1, true);
        x.enqueue(3, 2, true);
        due("16: free", x.space(0), 6);
        due("16: longest", x.space(1), 6);
        x.remove(3, 0);
        due("16: free", x.space(0), 11);
        due("16: longest, the later one", x.space(1), 6);
        due("16: sets", x.space(2), 2);
        due("16: extents", x.space(3), 3);
        due("16: holdings", x.space(4), 3);
        due("16: who wait", x.space(5), 1);
        due("16: 6", x.space(6), -1);
        for (int w : WILD) {
            due("16: " + w, x.space(w), -1);
        }
        DataSets y = new DataSets(9);
        y.make(1, 5, 0);
        y.make(2, 2, 0);
        y.make(3, 2, 0);
        due("16: none free", y.space(1), 0);
        y.remove(1, 0);
        y.remove(3, 0);
        due("16: longest, the first one", y.space(1), 5);
        due("16: free in two runs", y.space(0), 7);
    }

    private static void promise17Extent() {
        DataSets x = new DataSets(20);
        x.make(1, 4, 2);
        x.make(2, 3, 0);
        x.extend(1);
        due("17: first", x.extent(1, 0, 0), 0);
        due("17: length", x.extent(1, 0, 1), 4);
        due("17: second's first", x.extent(1, 1, 0), 7);
        due("17: second's length", x.extent(1, 1, 1), 2);
        due("17: other set", x.extent(2, 0, 0), 4);
        due("17: no third", x.extent(1, 2, 0), -1);
        due("17: no 17th", x.extent(1, 16, 1), -1);
        due("17: what 2", x.extent(1, 0, 2), -1);
        due("17: set 0", x.extent(0, 0, 0), -1);
        due("17: set 3", x.extent(3, 0, 0), -1);
        for (int w : WILD) {
            due("17: set " + w, x.extent(w, 0, 0), -1);
            due("17: i " + w, x.extent(1, w, 0), -1);
            due("17: what " + w, x.extent(1, 0, w), -1);
        }
        x.remove(1, 0);
        due("17: gone", x.extent(1, 0, 0), -1);
        due("17: gone", x.extent(1, 0, 1), -1);
    }

    private static void removedSetIsGone() {
        DataSets x = new DataSets(10);
        x.make(1, 5, 1);
        x.member(1, 1, 2);
        x.remove(1, 0);
        due("a new set of that name", x.make(1, 5, 1), 2);
        due("has no members", x.track(2, 1), -1);
        due("and all of its tracks", x.member(2, 2, 5), 1);
        due("the old number is gone", x.member(1, 2, 1), -2);
    }
}
