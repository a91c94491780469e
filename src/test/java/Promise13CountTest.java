/** Promise 13: count tells the entries of each area, and 0 for any other. */
final class Promise13CountTest {
    public static void main(String[] args) {
        Checks.sentence("`count(area)` works in any status", Promise13CountTest::anyStatus);
        Checks.sentence("and changes nothing", Promise13CountTest::changesNothing);
        Checks.sentence("answers the number of entries", Promise13CountTest::differentInEachArea);
        Checks.sentence("`STACK`: of the stack", () -> emptyAndFull(StackCacher.STACK, 4, 32));
        Checks.sentence("`RETURNS`: of returns", () -> emptyAndFull(StackCacher.RETURNS, 1, 8));
        Checks.sentence("`INPUT`: of input", () -> emptyAndFull(StackCacher.INPUT, 1, 8));
        Checks.sentence("`OUTPUT`: of output", () -> emptyAndFull(StackCacher.OUTPUT, 1, 8));
        Checks.sentence("`OPS` and `ARGS`: of the program (the number of instructions, the same for both)", () -> {
            emptyAndFull(StackCacher.OPS, 8, 24);
            emptyAndFull(StackCacher.ARGS, 8, 24);
        });
        Checks.sentence("any other area, negative ones included: 0", Promise13CountTest::otherAreas);
        Checks.finish();
    }

    private static void dueCounts(String when, StackCacher x, int... wanted) {
        for (int area = 0; area <= 5; area++) {
            Checks.due("count(" + area + ") " + when, x.count(area), wanted[area]);
        }
    }

    private static void anyStatus() {
        int[][] wanted = {{0, 0, 2, 2, 7, 7}, {1, 1, 2, 2, 7, 7}, {1, 1, 2, 2, 7, 7}, {1, 1, 2, 2, 8, 8},
            {4, 1, 2, 2, 8, 8}, {1, 0, 2, 2, 7, 7}, {1, 2, 2, 2, 8, 8}};
        for (int status = 0; status <= 6; status++) {
            dueCounts("in status " + status, Prepared.inStatus(status), wanted[status]);
        }
    }

    private static void changesNothing() {
        for (int area : Checks.ANY_INT) {
            Checks.noEffect("count(" + area + ") at the start", Checks::largest, x -> x.count(area), 0);
            for (int status = 0; status <= 6; status++) {
                int wanted = status;
                Checks.noEffect("count(" + area + ") in status " + status, () -> Prepared.inStatus(wanted),
                    x -> x.count(area), Prepared.inStatus(status).count(area));
            }
        }
    }

    private static void differentInEachArea() {
        StackCacher x = Checks.largest();
        dueCounts("at the start", x, 0, 0, 0, 0, 0, 0);
        for (int k = 0; k < 5; k++) {
            x.feed(k);
        }
        Checks.load(x, StackCacher.PUSH, 1, StackCacher.DUP, 0, StackCacher.DUP, 0, StackCacher.OUT, 0,
            StackCacher.CALL, 5, StackCacher.DUP, 0, StackCacher.DUP, 0, StackCacher.HALT, 0);
        dueCounts("before compile", x, 0, 0, 5, 0, 8, 8);
        x.compile();
        dueCounts("after compile", x, 0, 0, 5, 0, 8, 8);
        x.run(4);
        dueCounts("after run(4)", x, 2, 0, 5, 1, 8, 8);
        x.run(256);
        dueCounts("when halted", x, 4, 1, 5, 1, 8, 8);
        x.take();
        dueCounts("after take", x, 4, 1, 5, 0, 8, 8);
        x.edit();
        dueCounts("after edit", x, 0, 0, 5, 0, 8, 8);
        x.erase();
        dueCounts("after erase", x, 0, 0, 5, 0, 7, 7);
        x.clear();
        dueCounts("after clear", x, 0, 0, 0, 0, 0, 0);
    }

    private static void emptyAndFull(int area, int least, int greatest) {
        Checks.due("count(" + area + ") when empty", Checks.smallest().count(area), 0);
        Checks.due("count(" + area + ") when empty", Checks.largest().count(area), 0);
        Checks.due("count(" + area + ") when full", Prepared.smallestFull().count(area), least);
        Checks.due("count(" + area + ") when full", Prepared.largestFull().count(area), greatest);
        StackCacher x = Prepared.largestFull();
        x.clear();
        Checks.due("count(" + area + ") when cleared", x.count(area), 0);
    }

    private static void otherAreas() {
        StackCacher full = Prepared.largestFull();
        for (int area : Checks.ANY_INT) {
            if (area < 0 || area > 5) {
                Checks.due("count(" + area + ") at the start", Checks.largest().count(area), 0);
                Checks.due("count(" + area + ") with everything full", full.count(area), 0);
                for (int status = 0; status <= 6; status++) {
                    Checks.due("count(" + area + ") in status " + status, Prepared.inStatus(status).count(area), 0);
                }
            }
        }
        for (int area = 6; area <= 300; area++) {
            Checks.due("count(" + area + ")", full.count(area), 0);
            Checks.due("count(" + (5 - area) + ")", full.count(5 - area), 0);
        }
    }
}
