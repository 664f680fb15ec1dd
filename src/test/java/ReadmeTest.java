/** The example of README.md, call by call, so that it does not come to tell what is not so. */
public final class ReadmeTest {
    private static int wrong = 0;

    private static void due(String call, int got, int want) {
        if (got != want) {
            wrong++;
            System.out.println(call + " answered " + got + ", README.md says " + want);
        }
    }

    public static void main(String[] args) {
        DataSets x = new DataSets(20);
        int set = x.make(1, 4, 3);
        due("make(1, 4, 3)", set, 1);
        due("extend(set)", x.extend(set), 2);
        membersAndSpace(x, set);
        attributes(x, set);
        jobsAndGuard(x, set);
        System.out.println(wrong == 0 ? "the example is as README.md says" : wrong + " answers are not so");
        if (wrong != 0) {
            System.exit(1);
        }
    }

    private static void membersAndSpace(DataSets x, int set) {
        due("member(set, 7, 5)", x.member(set, 7, 5), 1);
        due("member(set, 7, 2)", x.member(set, 7, 2), 1);
        due("track(set, 7)", x.track(set, 7), 5);
        due("compress(set)", x.compress(set), 5);
        due("track(set, 7), compressed", x.track(set, 7), 0);
        due("release(set)", x.release(set), 5);
        due("space(0)", x.space(0), 18);
    }

    private static void attributes(DataSets x, int set) {
        due("attribute(set, 2, 0, 80)", x.attribute(set, 2, 0, 80), 1);
        due("attribute(set, 0, 0, 132)", x.attribute(set, 0, 0, 132), 1);
        due("merged(set, 0)", x.merged(set, 0), 132);
    }

    private static void jobsAndGuard(DataSets x, int set) {
        due("guard(set, 31)", x.guard(set, 31L), 1);
        due("enqueue(1, 1, true)", x.enqueue(1, 1, true), 1);
        due("enqueue(2, 1, false)", x.enqueue(2, 1, false), 0);
        due("remove(1, 31), held", x.remove(1, 31L), -5);
        due("free(1)", x.free(1), 1);
        due("free(2)", x.free(2), 1);
        due("remove(1, 30)", x.remove(1, 30L), -9);
        due("remove(1, 31)", x.remove(1, 31L), 1);
        due("find(1)", x.find(1), 0);
    }
}
