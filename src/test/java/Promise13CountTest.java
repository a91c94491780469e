/** Promise 13: count tells the entries of each area, and 0 for any other. */
final class Promise13CountTest {
    private static final int[] OTHER_AREAS = {Checks.LOW, -6, -1, 6, 7, 8, 256, Checks.HIGH};

    public static void main(String[] args) {
        differentInEachArea();
        inEveryStatus();
        Checks.finish();
    }

    private static void dueCounts(StackCacher x, int... wanted) {
        for (int area = 0; area <= 5; area++) {
            Checks.due("count(" + area + ")", x.count(area), wanted[area]);
        }
        for (int area : OTHER_AREAS) {
            Checks.due("count(" + area + ")", x.count(area), 0);
        }
    }

    private static void differentInEachArea() {
        StackCacher x = Checks.largest();
        dueCounts(x, 0, 0, 0, 0, 0, 0);
        for (int k = 0; k < 5; k++) {
            x.feed(k);
        }
        Checks.load(x, StackCacher.PUSH, 1, StackCacher.DUP, 0, StackCacher.DUP, 0, StackCacher.OUT, 0,
            StackCacher.CALL, 5, StackCacher.DUP, 0, StackCacher.DUP, 0, StackCacher.HALT, 0);
        dueCounts(x, 0, 0, 5, 0, 8, 8);
        x.compile();
        dueCounts(x, 0, 0, 5, 0, 8, 8);
        x.run(4);
        dueCounts(x, 2, 0, 5, 1, 8, 8);
        x.run(256);
        dueCounts(x, 4, 1, 5, 1, 8, 8);
        x.take();
        dueCounts(x, 4, 1, 5, 0, 8, 8);
        x.edit();
        dueCounts(x, 0, 0, 5, 0, 8, 8);
        x.erase();
        dueCounts(x, 0, 0, 5, 0, 7, 7);
        x.clear();
        dueCounts(x, 0, 0, 0, 0, 0, 0);
    }

    private static void inEveryStatus() {
        int[][] wanted = {{0, 0, 2, 0, 5, 5}, {1, 1, 2, 1, 5, 5}, {1, 1, 2, 1, 5, 5}, {1, 1, 2, 1, 6, 6},
            {4, 1, 2, 1, 6, 6}, {1, 0, 2, 1, 5, 5}, {0, 2, 2, 1, 7, 7}};
        for (int status = 0; status <= 6; status++) {
            StackCacher x = Checks.inStatus(status);
            String before = Checks.state(x);
            dueCounts(x, wanted[status]);
            Checks.dueText("state after count", Checks.state(x), before);
        }
    }
}
