/** Promise 9: take removes the oldest value of output in any status. */
final class Promise09TakeTest {
    public static void main(String[] args) {
        emptyAnswersZero();
        for (int cells = 1; cells <= 8; cells++) {
            oldestFirst(cells);
        }
        anyValue();
        nothingIsExecuted();
        Checks.finish();
    }

    private static void emptyAnswersZero() {
        StackCacher x = Checks.largest();
        x.feed(5);
        Checks.due("take() at the start", x.take(), 0);
        Checks.dueText("state after it", Checks.state(x), "status 0 pc 0 [] [] [5] [] [] []");
        for (int status = 1; status <= 6; status++) {
            StackCacher other = Checks.inStatus(status);
            String before = Checks.state(other);
            Checks.due("take() in status " + status, other.take(), 5);
            Checks.dueText("state after it", Checks.state(other), before.replace("[70 80] [5]", "[70 80] []"));
            String emptied = Checks.state(other);
            Checks.due("take() once more", other.take(), 0);
            Checks.dueText("state after that", Checks.state(other), emptied);
        }
        StackCacher edited = Checks.inStatus(StackCacher.HALTED);
        edited.edit();
        Checks.due("take() while editing", edited.take(), 5);
    }

    private static void oldestFirst(int cells) {
        StackCacher x = new StackCacher(8, 4, 1, cells);
        Checks.loadAndCompile(x, StackCacher.PUSH, 1, StackCacher.DUP, 0, StackCacher.OUT, 0,
            StackCacher.ADDI, 1, StackCacher.JUMP, 1);
        Checks.due("run(256)", x.run(256), StackCacher.WAIT_OUT);
        for (int k = 1; k < 30; k++) {
            Checks.due("take() number " + k, x.take(), k);
            Checks.due("count(OUTPUT)", x.count(StackCacher.OUTPUT), cells - 1);
            Checks.due("run(256)", x.run(256), StackCacher.WAIT_OUT);
            Checks.due("count(OUTPUT)", x.count(StackCacher.OUTPUT), cells);
            Checks.due("the youngest", x.view(StackCacher.OUTPUT, cells - 1), k + cells);
        }
    }

    private static void anyValue() {
        StackCacher x = Checks.largest();
        Checks.loadAndCompile(x, StackCacher.IN, 0, StackCacher.OUT, 0, StackCacher.JUMP, 0);
        int[] values = {0, Checks.LOW, Checks.HIGH, -1, 0};
        for (int v : values) {
            x.feed(v);
        }
        x.run(256);
        for (int v : values) {
            Checks.due("take()", x.take(), v);
        }
        Checks.due("count(OUTPUT)", x.count(StackCacher.OUTPUT), 0);
    }

    private static void nothingIsExecuted() {
        StackCacher x = Checks.smallest();
        Checks.loadAndCompile(x, StackCacher.PUSH, 8, StackCacher.OUT, 0, StackCacher.JUMP, 0);
        Checks.due("run(256)", x.run(256), StackCacher.WAIT_OUT);
        Checks.due("take()", x.take(), 8);
        Checks.dueText("OUT still waits", Checks.state(x), "status 1 pc 1 [8] [] [] [] [1 16 17] [8 0 0]");
    }
}
