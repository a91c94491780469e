/** An object's sizes, measured by filling it until it takes no more. */
final class Sizes {
    /** Above every size, so that a missing bound does not keep a test from its end. */
    private static final int ENOUGH = 100;

    private Sizes() {
    }

    /** Clears the object: "program stack returns input output". */
    static String of(StackCacher x) {
        return programCells(x) + " " + stackCells(x) + " " + returnCells(x)
            + " " + inputCells(x) + " " + outputCells(x);
    }

    static int programCells(StackCacher x) {
        x.clear();
        int taken = 0;
        while (taken < ENOUGH && x.emit(StackCacher.HALT, 0) != StackCacher.REFUSED) {
            taken++;
        }
        return taken;
    }

    static int stackCells(StackCacher x) {
        x.clear();
        Checks.loadAndCompile(x, StackCacher.PUSH, 1, StackCacher.JUMP, 0);
        Checks.due("run(256)", x.run(256), StackCacher.OVERFLOW);
        return x.count(StackCacher.STACK);
    }

    static int returnCells(StackCacher x) {
        x.clear();
        Checks.loadAndCompile(x, StackCacher.CALL, 0, StackCacher.HALT, 0);
        Checks.due("run(256)", x.run(256), StackCacher.RETURNS_FULL);
        return x.count(StackCacher.RETURNS);
    }

    static int inputCells(StackCacher x) {
        x.clear();
        int taken = 0;
        while (taken < ENOUGH && x.feed(1) != StackCacher.REFUSED) {
            taken++;
        }
        return taken;
    }

    static int outputCells(StackCacher x) {
        x.clear();
        Checks.loadAndCompile(x, StackCacher.PUSH, 1, StackCacher.OUT, 0, StackCacher.JUMP, 0);
        Checks.due("run(256)", x.run(256), StackCacher.WAIT_OUT);
        return x.count(StackCacher.OUTPUT);
    }
}
