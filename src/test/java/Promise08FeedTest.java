/** Promise 8: feed appends to input in any status, up to queueCells. */
final class Promise08FeedTest {
    public static void main(String[] args) {
        for (int cells = 1; cells <= 8; cells++) {
            fillsUp(cells);
            firstInFirstOut(cells);
        }
        anyStatus();
        Checks.finish();
    }

    private static void fillsUp(int cells) {
        StackCacher x = new StackCacher(8, 4, 1, cells);
        int[] values = {Checks.LOW, 0, Checks.HIGH, -1, 0, 5, -6, 7};
        for (int k = 0; k < cells; k++) {
            Checks.due("feed number " + k, x.feed(values[k]), k + 1);
            Checks.due("its value", x.view(StackCacher.INPUT, k), values[k]);
            Checks.due("the front", x.view(StackCacher.INPUT, 0), Checks.LOW);
        }
        String before = Checks.state(x);
        Checks.due("feed into a full queue", x.feed(99), StackCacher.REFUSED);
        Checks.dueText("state of the full queue", Checks.state(x), before);
    }

    private static void firstInFirstOut(int cells) {
        StackCacher x = new StackCacher(8, 4, 1, cells);
        Checks.loadAndCompile(x, StackCacher.IN, 0, StackCacher.DROP, 0, StackCacher.JUMP, 0);
        for (int k = 0; k < cells - 1; k++) {
            x.feed(k);
        }
        // More values than any array holds, so the queue goes around with every fill.
        for (int k = cells - 1; k < 30; k++) {
            Checks.due("feed(" + k + ")", x.feed(k), cells);
            Checks.due("feed into a full queue", x.feed(99), StackCacher.REFUSED);
            Checks.due("run(1)", x.run(1), StackCacher.READY);
            Checks.due("the value taken in", x.view(StackCacher.STACK, 0), k - cells + 1);
            Checks.due("run(2)", x.run(2), StackCacher.READY);
        }
    }

    private static void anyStatus() {
        for (int status = 0; status <= 6; status++) {
            StackCacher x = Checks.inStatus(status);
            String before = Checks.state(x);
            Checks.due("feed when full in status " + status, x.feed(90), StackCacher.REFUSED);
            Checks.dueText("state in status " + status, Checks.state(x), before);
        }
        StackCacher waiting = Checks.largest();
        Checks.loadAndCompile(waiting, StackCacher.IN, 0, StackCacher.HALT, 0);
        waiting.run(1);
        Checks.due("feed(4) while waiting", waiting.feed(4), 1);
        Checks.dueText("nothing is executed by it", Checks.state(waiting), "status 1 pc 0 [] [] [4] [] [15 0] [0 0]");
        waiting.run(2);
        Checks.due("feed(5) when halted", waiting.feed(5), 1);
        Checks.dueText("halted with input", Checks.state(waiting), "status 2 pc 1 [4] [] [5] [] [15 0] [0 0]");
    }
}
