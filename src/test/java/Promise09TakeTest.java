/** Promise 9: take removes the oldest value of output in any status. */
final class Promise09TakeTest {
    public static void main(String[] args) {
        Checks.sentence("`take()` works in any status.", Promise09TakeTest::anyStatus);
        Checks.sentence("If output is empty, it answers 0 and changes nothing.", Promise09TakeTest::emptyOutput);
        Checks.sentence("Otherwise it removes the value at the front of output (the oldest) and answers it.",
            Promise09TakeTest::oldestFirst);
        Checks.sentence("That value may be any int, 0 included.", Promise09TakeTest::anyValue);
        Checks.sentence("Nothing else changes; in particular no instruction is executed.",
            Promise09TakeTest::nothingIsExecuted);
        Checks.finish();
    }

    private static void anyStatus() {
        for (int status = StackCacher.EDITING; status <= StackCacher.RETURNS_FULL; status++) {
            StackCacher x = Prepared.inStatus(status);
            String[] want = Prepared.parts(status);
            Checks.due("take() in status " + status, x.take(), 5);
            want[StackCacher.OUTPUT] = "[0]";
            Checks.dueParts("after it", x, want);
            Checks.due("take() of the second", x.take(), 0);
            want[StackCacher.OUTPUT] = "[]";
            Checks.dueParts("after that", x, want);
        }
    }

    private static StackCacher emptiedIn(int status) {
        StackCacher x = Prepared.inStatus(status);
        x.take();
        x.take();
        return x;
    }

    private static void emptyOutput() {
        Checks.noEffect("take() at the start", Checks::largest, StackCacher::take, 0);
        Checks.noEffect("take() at the start of the smallest", Checks::smallest, StackCacher::take, 0);
        for (int status = StackCacher.EDITING; status <= StackCacher.RETURNS_FULL; status++) {
            int wanted = status;
            Checks.noEffect("take() when emptied in status " + status, () -> emptiedIn(wanted), StackCacher::take, 0);
        }
        Checks.noEffect("take() after clear", () -> {
            StackCacher x = Prepared.largestFull();
            x.clear();
            return x;
        }, StackCacher::take, 0);
        Checks.noEffect("take() with input alone", () -> {
            StackCacher x = Checks.largest();
            x.feed(5);
            return x;
        }, StackCacher::take, 0);
    }

    private static void oldestFirst() {
        for (int cells = 1; cells <= 8; cells++) {
            StackCacher x = new StackCacher(8, 4, 1, cells);
            Checks.loadAndCompile(x, StackCacher.PUSH, 1, StackCacher.DUP, 0, StackCacher.OUT, 0,
                StackCacher.ADDI, 1, StackCacher.JUMP, 1);
            Checks.due("run(256)", x.run(256), StackCacher.WAIT_OUT);
            // More values than any array holds, so the queue goes around with every fill.
            for (int k = 1; k < 40; k++) {
                Checks.due("take() number " + k, x.take(), k);
                Checks.due("count(OUTPUT)", x.count(StackCacher.OUTPUT), cells - 1);
                Checks.due("run(256)", x.run(256), StackCacher.WAIT_OUT);
                for (int i = 0; i < cells; i++) {
                    Checks.due("view(OUTPUT, " + i + ")", x.view(StackCacher.OUTPUT, i), k + 1 + i);
                }
            }
            for (int k = 40; k < 40 + cells; k++) {
                Checks.due("take() to the last, " + k, x.take(), k);
            }
            Checks.due("take() when empty", x.take(), 0);
        }
    }

    private static void anyValue() {
        for (int v : Checks.ANY_INT) {
            StackCacher x = Checks.largest();
            x.feed(v);
            x.feed(0);
            x.feed(~v);
            Checks.loadAndCompile(x, StackCacher.IN, 0, StackCacher.OUT, 0, StackCacher.JUMP, 0);
            Checks.due("run(256)", x.run(256), StackCacher.WAIT_IN);
            Checks.due("take() of " + v, x.take(), v);
            Checks.due("count(OUTPUT)", x.count(StackCacher.OUTPUT), 2);
            Checks.due("take() of 0", x.take(), 0);
            Checks.due("count(OUTPUT)", x.count(StackCacher.OUTPUT), 1);
            Checks.due("take() of " + ~v, x.take(), ~v);
            Checks.due("count(OUTPUT)", x.count(StackCacher.OUTPUT), 0);
        }
    }

    private static void nothingIsExecuted() {
        StackCacher waiting = Prepared.waitingForOutput();
        String[] want = Checks.parts(waiting);
        Checks.due("take() while OUT waits", waiting.take(), 1);
        want[StackCacher.OUTPUT] = "[2 3]";
        Checks.dueParts("after it", waiting, want);
        Checks.due("take() after that", waiting.take(), 2);
        want[StackCacher.OUTPUT] = "[3]";
        Checks.dueParts("after both", waiting, want);
        StackCacher reading = Prepared.waitingForInput();
        want = Checks.parts(reading);
        Checks.due("take() while IN waits", reading.take(), 5);
        want[StackCacher.OUTPUT] = "[]";
        Checks.dueParts("after it", reading, want);
        StackCacher full = Prepared.largestFull();
        want = Checks.parts(full);
        Checks.due("take() when all is full", full.take(), 301);
        want[StackCacher.OUTPUT] = "[302 303 304 305 306 307 308]";
        Checks.dueParts("after it", full, want);
    }
}
