/** Promise 1: the constructor clamps its four sizes, each for itself, and starts empty. */
final class Promise01StartTest {
    public static void main(String[] args) {
        int[] given = {Checks.LOW, -1, 0, 1, 2, 3, 4, 5, 7, 8, 9, 16, 23, 24, 25, 31, 32, 33, 256, Checks.HIGH};
        for (int size : given) {
            checkSizes(size, 10, 3, 2);
            checkSizes(10, size, 3, 2);
            checkSizes(10, 6, size, 2);
            checkSizes(10, 6, 3, size);
            checkSizes(size, size, size, size);
        }
        StackCacher x = new StackCacher(10, 6, 3, 2);
        Checks.dueText("the start", Checks.state(x), "status 0 pc 0 [] [] [] [] [] []");
        Checks.finish();
    }

    private static void checkSizes(int program, int stack, int returns, int queue) {
        String sizes = " of sizes " + program + ", " + stack + ", " + returns + ", " + queue;
        StackCacher x = new StackCacher(program, stack, returns, queue);
        Checks.dueText("the start" + sizes, Checks.state(x), "status 0 pc 0 [] [] [] [] [] []");
        // Measured twice, since the sizes stay the same for the life of the object.
        for (int round = 0; round < 2; round++) {
            Checks.due("programCells" + sizes, programCells(x), clamped(program, 8, 24));
            Checks.due("stackCells" + sizes, stackCells(x), clamped(stack, 4, 32));
            Checks.due("returnCells" + sizes, returnCells(x), clamped(returns, 1, 8));
            Checks.due("input's queueCells" + sizes, inputCells(x), clamped(queue, 1, 8));
            Checks.due("output's queueCells" + sizes, outputCells(x), clamped(queue, 1, 8));
        }
    }

    private static int clamped(int value, int least, int greatest) {
        return Math.max(least, Math.min(greatest, value));
    }

    private static int programCells(StackCacher x) {
        x.clear();
        int taken = 0;
        while (taken < 100 && x.emit(StackCacher.HALT, 0) != StackCacher.REFUSED) {
            taken++;
        }
        return taken;
    }

    private static int stackCells(StackCacher x) {
        x.clear();
        Checks.loadAndCompile(x, StackCacher.PUSH, 1, StackCacher.JUMP, 0);
        Checks.due("run(256)", x.run(256), StackCacher.OVERFLOW);
        return x.count(StackCacher.STACK);
    }

    private static int returnCells(StackCacher x) {
        x.clear();
        Checks.loadAndCompile(x, StackCacher.CALL, 0, StackCacher.HALT, 0);
        Checks.due("run(256)", x.run(256), StackCacher.RETURNS_FULL);
        return x.count(StackCacher.RETURNS);
    }

    private static int inputCells(StackCacher x) {
        x.clear();
        int taken = 0;
        while (taken < 100 && x.feed(1) != StackCacher.REFUSED) {
            taken++;
        }
        return taken;
    }

    private static int outputCells(StackCacher x) {
        x.clear();
        Checks.loadAndCompile(x, StackCacher.PUSH, 1, StackCacher.OUT, 0, StackCacher.JUMP, 0);
        Checks.due("run(256)", x.run(256), StackCacher.WAIT_OUT);
        return x.count(StackCacher.OUTPUT);
    }
}
