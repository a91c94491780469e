/** Promise 8: feed appends to input in any status, up to queueCells. */
final class Promise08FeedTest {
    public static void main(String[] args) {
        Checks.sentence("`feed(v)` works in any status.", Promise08FeedTest::anyStatus);
        Checks.sentence("If input holds queueCells values, it answers `REFUSED` and changes nothing.",
            Promise08FeedTest::fullInput);
        Checks.sentence("Otherwise it appends v, which may be any int,", Promise08FeedTest::anyValue);
        Checks.sentence("at the back of input", Promise08FeedTest::atTheBack);
        Checks.sentence("and answers the number of values input now holds (1 to queueCells).",
            Promise08FeedTest::answersTheNumber);
        Checks.sentence("Nothing else changes; in particular no instruction is executed.",
            Promise08FeedTest::nothingIsExecuted);
        Checks.finish();
    }

    private static void anyStatus() {
        for (int status = StackCacher.EDITING; status <= StackCacher.RETURNS_FULL; status++) {
            StackCacher x = Prepared.inStatus(status);
            String[] want = Prepared.parts(status);
            Checks.due("feed(90) in status " + status, x.feed(90), 3);
            want[StackCacher.INPUT] = "[70 80 90]";
            Checks.dueParts("after it", x, want);
            Checks.due("feed(91) in status " + status, x.feed(91), StackCacher.REFUSED);
        }
    }

    private static StackCacher fullIn(int status) {
        StackCacher x = Prepared.inStatus(status);
        x.feed(90);
        return x;
    }

    private static StackCacher filled(int cells) {
        StackCacher x = new StackCacher(8, 4, 1, cells);
        for (int k = 1; k <= cells; k++) {
            x.feed(k);
        }
        return x;
    }

    private static void fullInput() {
        for (int cells = 1; cells <= 8; cells++) {
            int size = cells;
            for (int v : Checks.ANY_INT) {
                Checks.noEffect("feed(" + v + ") to " + cells + " values", () -> filled(size), x -> x.feed(v),
                    StackCacher.REFUSED);
            }
        }
        for (int status = StackCacher.EDITING; status <= StackCacher.RETURNS_FULL; status++) {
            int wanted = status;
            Checks.noEffect("feed(91) when full in status " + status, () -> fullIn(wanted), x -> x.feed(91),
                StackCacher.REFUSED);
        }
        Checks.noEffect("feed(91) when all is full", Prepared::largestFull, x -> x.feed(91), StackCacher.REFUSED);
    }

    private static void anyValue() {
        for (int v : Checks.ANY_INT) {
            StackCacher x = Checks.largest();
            Checks.due("feed(" + v + ")", x.feed(v), 1);
            Checks.due("feed(" + ~v + ")", x.feed(~v), 2);
            Checks.dueArea("after feed", x, StackCacher.INPUT, "[" + v + " " + ~v + "]");
            Checks.loadAndCompile(x, StackCacher.IN, 0, StackCacher.HALT, 0);
            x.run(1);
            Checks.dueArea("after IN", x, StackCacher.STACK, "[" + v + "]");
        }
    }

    private static void atTheBack() {
        for (int cells = 1; cells <= 8; cells++) {
            StackCacher x = new StackCacher(8, 4, 1, cells);
            Checks.loadAndCompile(x, StackCacher.IN, 0, StackCacher.DROP, 0, StackCacher.JUMP, 0);
            for (int k = 0; k < cells - 1; k++) {
                x.feed(k);
            }
            // More values than any array holds, so the queue goes around with every fill.
            for (int k = cells - 1; k < 40; k++) {
                Checks.due("feed(" + k + ")", x.feed(k), cells);
                for (int i = 0; i < cells; i++) {
                    Checks.due("view(INPUT, " + i + ")", x.view(StackCacher.INPUT, i), k - cells + 1 + i);
                }
                Checks.due("feed into a full queue", x.feed(99), StackCacher.REFUSED);
                Checks.due("run(1)", x.run(1), StackCacher.READY);
                Checks.due("the value taken in", x.view(StackCacher.STACK, 0), k - cells + 1);
                Checks.due("run(2)", x.run(2), StackCacher.READY);
            }
        }
    }

    private static void answersTheNumber() {
        for (int cells = 1; cells <= 8; cells++) {
            StackCacher x = new StackCacher(8, 4, 1, cells);
            Checks.loadAndCompile(x, StackCacher.IN, 0, StackCacher.DROP, 0, StackCacher.JUMP, 0);
            for (int round = 0; round < 4; round++) {
                for (int k = 1; k <= cells; k++) {
                    Checks.due("feed number " + k + " of " + cells, x.feed(-k), k);
                    Checks.due("count(INPUT)", x.count(StackCacher.INPUT), k);
                }
                Checks.due("run(256)", x.run(256), StackCacher.WAIT_IN);
            }
        }
    }

    private static void nothingIsExecuted() {
        StackCacher waiting = Prepared.waitingForInput();
        String[] want = Checks.parts(waiting);
        Checks.due("feed(4) while IN waits", waiting.feed(4), 1);
        want[StackCacher.INPUT] = "[4]";
        Checks.dueParts("after it", waiting, want);
        Checks.due("feed(0) after that", waiting.feed(0), 2);
        want[StackCacher.INPUT] = "[4 0]";
        Checks.dueParts("after both", waiting, want);
        StackCacher writing = Prepared.waitingForOutput();
        want = Checks.parts(writing);
        Checks.due("feed(4) while OUT waits", writing.feed(4), 2);
        want[StackCacher.INPUT] = "[70 4]";
        Checks.dueParts("after it", writing, want);
    }
}
