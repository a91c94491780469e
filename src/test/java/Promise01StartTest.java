/** Promise 1: the constructor clamps its four sizes, each for itself, and starts empty. */
final class Promise01StartTest {
    private static final int[] LEAST = {8, 4, 1, 1};
    private static final int[] GREATEST = {24, 32, 8, 8};
    private static final int[] BETWEEN = {10, 6, 3, 2};
    private static final int[] ANY = {Checks.LOW, -1, 0, 7, 256, Checks.HIGH};

    public static void main(String[] args) {
        Checks.sentence("accepts any four ints", Promise01StartTest::anyFourInts);
        Checks.sentence("a value below the least becomes the least", Promise01StartTest::belowTheLeast);
        Checks.sentence("a value above the greatest becomes the greatest", Promise01StartTest::aboveTheGreatest);
        Checks.sentence("any other value is kept", Promise01StartTest::otherValuesAreKept);
        Checks.sentence("In everything below, these names mean the clamped sizes.",
            Promise01StartTest::clampedInEverything);
        Checks.sentence("They stay the same for the life of the object.", Promise01StartTest::sizesStay);
        Checks.sentence("queueCells bounds input and output each for itself.",
            Promise01StartTest::eachQueueForItself);
        Checks.sentence("At the start the status is `EDITING`; program, stack, returns, input and output are empty; "
            + "pc is 0.", Promise01StartTest::theStart);
        Checks.finish();
    }

    private static StackCacher made(int[] sizes) {
        return new StackCacher(sizes[0], sizes[1], sizes[2], sizes[3]);
    }

    private static String text(int[] sizes) {
        return sizes[0] + " " + sizes[1] + " " + sizes[2] + " " + sizes[3];
    }

    private static void dueSizes(String when, StackCacher x, int[] want) {
        // The last stands twice: once for input and once for output.
        Checks.dueText("sizes " + when, Sizes.of(x), text(want) + " " + want[3]);
    }

    /** One of the four sizes is given, the others are between their bounds and must stay so. */
    private static void oneSize(int which, int value, int want) {
        int[] sizes = BETWEEN.clone();
        sizes[which] = value;
        int[] wanted = BETWEEN.clone();
        wanted[which] = want;
        dueSizes("of new StackCacher " + text(sizes), made(sizes), wanted);
    }

    private static void anyFourInts() {
        for (int k = 0; k < ANY.length * ANY.length * ANY.length * ANY.length; k++) {
            int n = ANY.length;
            int[] sizes = {ANY[k % n], ANY[k / n % n], ANY[k / n / n % n], ANY[k / n / n / n]};
            int[] wanted = new int[4];
            for (int which = 0; which < 4; which++) {
                wanted[which] = Math.max(LEAST[which], Math.min(GREATEST[which], sizes[which]));
            }
            dueSizes("of new StackCacher " + text(sizes), made(sizes), wanted);
        }
    }

    private static void belowTheLeast() {
        for (int which = 0; which < 4; which++) {
            for (int value : new int[] {Checks.LOW, Checks.LOW + 8, -65536, -256, -24, -8, -2, -1}) {
                oneSize(which, value, LEAST[which]);
            }
            for (int value = 0; value < LEAST[which]; value++) {
                oneSize(which, value, LEAST[which]);
            }
        }
    }

    private static void aboveTheGreatest() {
        for (int which = 0; which < 4; which++) {
            int greatest = GREATEST[which];
            for (int value : new int[] {greatest + 1, greatest + 2, 2 * greatest, 256, 260, 65540, Checks.HIGH}) {
                oneSize(which, value, greatest);
            }
        }
    }

    private static void otherValuesAreKept() {
        for (int which = 0; which < 4; which++) {
            for (int value = LEAST[which]; value <= GREATEST[which]; value++) {
                oneSize(which, value, value);
            }
        }
    }

    /** A given size that is out of bounds must not show anywhere, in no answer of no call. */
    private static void clampedInEverything() {
        for (int low : new int[] {Checks.LOW, -1, 0}) {
            StackCacher x = new StackCacher(low, low, low, low);
            Checks.dueText("answers with sizes " + low, Checks.later(x), Checks.later(Checks.smallest()));
        }
        for (int high : new int[] {33, 256, Checks.HIGH}) {
            StackCacher x = new StackCacher(high, high, high, high);
            Checks.dueText("answers with sizes " + high, Checks.later(x), Checks.later(Checks.largest()));
        }
    }

    private static void sizesStay() {
        for (int[] sizes : new int[][] {LEAST, BETWEEN, GREATEST}) {
            StackCacher x = made(sizes);
            for (int round = 0; round < 3; round++) {
                dueSizes("in round " + round, x, sizes);
                useOnce(x);
            }
        }
    }

    /** Every call once, so that none of them can move a size. */
    private static void useOnce(StackCacher x) {
        x.clear();
        x.feed(9);
        Checks.loadAndCompile(x, StackCacher.IN, 0, StackCacher.OUT, 0, StackCacher.CALL, 3, StackCacher.ADD, 0,
            StackCacher.HALT, 0);
        Checks.due("run(256)", x.run(256), StackCacher.UNDERFLOW);
        Checks.due("take()", x.take(), 9);
        Checks.due("edit()", x.edit(), StackCacher.EDITING);
        Checks.due("patch(0, 1)", x.patch(0, 1), 0);
        Checks.due("erase()", x.erase(), 4);
        Checks.due("count(OPS)", x.count(StackCacher.OPS), 4);
        Checks.due("view(OPS, 3)", x.view(StackCacher.OPS, 3), StackCacher.ADD);
    }

    private static void eachQueueForItself() {
        for (int cells = 1; cells <= 8; cells++) {
            StackCacher x = new StackCacher(8, 4, 1, cells);
            Checks.loadAndCompile(x, StackCacher.PUSH, 7, StackCacher.OUT, 0, StackCacher.JUMP, 0);
            for (int k = 1; k <= cells; k++) {
                Checks.due("feed(" + k + ") with an empty output", x.feed(k), k);
            }
            Checks.due("run(256) with a full input", x.run(256), StackCacher.WAIT_OUT);
            Checks.due("count(OUTPUT) with a full input", x.count(StackCacher.OUTPUT), cells);
            Checks.due("count(INPUT) with a full output", x.count(StackCacher.INPUT), cells);
            StackCacher y = new StackCacher(8, 4, 1, cells);
            Checks.loadAndCompile(y, StackCacher.PUSH, 7, StackCacher.OUT, 0, StackCacher.JUMP, 0);
            Checks.due("run(256) with an empty input", y.run(256), StackCacher.WAIT_OUT);
            for (int k = 1; k <= cells; k++) {
                Checks.due("feed(" + k + ") with a full output", y.feed(k), k);
            }
            Checks.due("feed(99) with both full", y.feed(99), StackCacher.REFUSED);
            Checks.due("count(OUTPUT) with both full", y.count(StackCacher.OUTPUT), cells);
        }
    }

    private static void theStart() {
        for (int size : Checks.ANY_INT) {
            StackCacher x = new StackCacher(size, size, size, size);
            Checks.dueText("the start", Checks.state(x), "status 0 pc 0 [] [] [] [] [] []");
            Checks.dueText("the start of " + text(BETWEEN), Checks.state(made(BETWEEN)),
                "status 0 pc 0 [] [] [] [] [] []");
        }
    }
}
