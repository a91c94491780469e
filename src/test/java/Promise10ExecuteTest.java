/** Promise 10, "Executing one instruction": the order of the outcomes, faults and waits. */
final class Promise10ExecuteTest {
    public static void main(String[] args) {
        Checks.sentence("In this order", Promise10ExecuteTest::inThisOrder);
        Checks.sentence("if the stack holds fewer than 'need' items: the outcome is `UNDERFLOW`",
            Promise10ExecuteTest::underflow);
        Checks.sentence("else if the number of items plus 'growth' is above stackCells: `OVERFLOW`",
            Promise10ExecuteTest::overflow);
        Checks.sentence("else if it is `CALL` and returns holds returnCells entries: `RETURNS_FULL`",
            Promise10ExecuteTest::returnsFull);
        Checks.sentence("else if it is `RET` and returns is empty: `RETURNS_EMPTY`",
            Promise10ExecuteTest::returnsEmpty);
        Checks.sentence("else if it is `IN` and input is empty: `WAIT_IN`", Promise10ExecuteTest::waitIn);
        Checks.sentence("else if it is `OUT` and output holds queueCells values: `WAIT_OUT`",
            Promise10ExecuteTest::waitOut);
        Checks.sentence("else its effect happens as in the table. The outcome is `HALTED` for `HALT`, else `READY`.",
            Promise10ExecuteTest::otherwiseTheEffect);
        Checks.sentence("With an outcome `UNDERFLOW`, `OVERFLOW`, `RETURNS_FULL` or `RETURNS_EMPTY` the status becomes "
            + "that outcome and nothing else changes: pc stays at the instruction at fault, and stack, returns, input "
            + "and output are as they were just before it.", Promise10ExecuteTest::faultsChangeTheStatusAlone);
        Checks.sentence("With `WAIT_IN` or `WAIT_OUT` nothing changes at all: the status stays `READY` and pc stays",
            Promise10ExecuteTest::waitsChangeNothing);
        Checks.sentence("so the next `run` with n at least 1 begins with the same instruction again",
            Promise10ExecuteTest::theSameInstructionAgain);
        Checks.sentence("unless `edit` or `clear` came in between", Promise10ExecuteTest::unlessEditOrClear);
        Checks.sentence("In all these cases the effects of the instructions executed earlier in the same call remain.",
            Promise10ExecuteTest::earlierEffectsRemain);
        Checks.sentence("`IN` with a full stack gives `OVERFLOW` even if input is empty",
            Promise10ExecuteTest::overflowBeforeWaitIn);
        Checks.sentence("`OUT` with an empty stack gives `UNDERFLOW` even if output is full",
            Promise10ExecuteTest::underflowBeforeWaitOut);
        Checks.finish();
    }

    /**
     * READY before (op, arg) with so many items on a stack of so many cells. An entry is in returns, two are in input,
     * one is in output, and all of them have room left.
     */
    private static StackCacher atDepth(int cells, int depth, int op, int arg) {
        StackCacher x = new StackCacher(24, cells, 3, 4);
        boolean full = depth == cells;
        // Input steers the loop; it needs a cell for that, so the last item of a full stack comes behind the loop.
        Checks.loadAndCompile(x, StackCacher.PUSH, 60, StackCacher.OUT, 0, StackCacher.CALL, 3, StackCacher.IN, 0,
            StackCacher.JZ, 7, StackCacher.PUSH, 100, StackCacher.JUMP, 3,
            full ? StackCacher.PUSH : StackCacher.JUMP, full ? 100 : 8, op, arg, StackCacher.HALT, 0);
        Checks.due("run(256)", x.run(256), StackCacher.WAIT_IN);
        for (int k = 0; k < (full ? depth - 1 : depth); k++) {
            x.feed(1);
            Checks.due("run(4)", x.run(4), StackCacher.READY);
        }
        x.feed(0);
        Checks.due("run(3)", x.run(3), StackCacher.READY);
        x.feed(50);
        x.feed(51);
        Checks.due("pc() before the instruction", x.pc(), 8);
        Checks.due("items before the instruction", x.count(StackCacher.STACK), depth);
        return x;
    }

    private static void goesOn(String what, StackCacher x, int itemsAfter) {
        Checks.due("run(1) of " + what, x.run(1), StackCacher.READY);
        Checks.due("status() after " + what, x.status(), StackCacher.READY);
        Checks.due("items after " + what, x.count(StackCacher.STACK), itemsAfter);
    }

    /** Every opcode where all that could stop an instruction holds at once, as far as that can be. */
    private static void inThisOrder() {
        for (int op = 0; op <= 20; op++) {
            int want = Table.GROWTH[op] > 0 ? StackCacher.OVERFLOW
                : op == StackCacher.CALL ? StackCacher.RETURNS_FULL
                : op == StackCacher.OUT ? StackCacher.WAIT_OUT
                : op == StackCacher.HALT ? StackCacher.HALTED : StackCacher.READY;
            Checks.due("run(1) of " + op + " with all full but input", crowded(op, true).run(1), want);
            want = Table.NEED[op] > 0 ? StackCacher.UNDERFLOW
                : op == StackCacher.CALL ? StackCacher.RETURNS_FULL
                : op == StackCacher.IN ? StackCacher.WAIT_IN
                : op == StackCacher.HALT ? StackCacher.HALTED : StackCacher.READY;
            Checks.due("run(1) of " + op + " with all full but input and stack", crowded(op, false).run(1), want);
        }
        for (int items = 0; items <= 4; items += 4) {
            Checks.due("run(1) of RET with nothing to return to", returning(items).run(1), StackCacher.RETURNS_EMPTY);
        }
    }

    /** The smallest sizes, READY before op with output and returns full, input empty and the stack full or empty. */
    private static StackCacher crowded(int op, boolean full) {
        StackCacher x = new StackCacher(24, 4, 1, 1);
        Checks.load(x, StackCacher.PUSH, 60, StackCacher.OUT, 0, StackCacher.CALL, 3);
        for (int k = 0; full && k < 4; k++) {
            Checks.load(x, StackCacher.PUSH, k);
        }
        Checks.loadAndCompile(x, op, 0, StackCacher.HALT, 0);
        Checks.due("run up to " + op, x.run(full ? 7 : 3), StackCacher.READY);
        return x;
    }

    private static void underflow() {
        for (int op = 0; op <= 20; op++) {
            for (int depth = 0; depth < Table.NEED[op]; depth++) {
                Checks.dueFault(op + " on " + depth + " items", atDepth(5, depth, op, 9), StackCacher.UNDERFLOW);
            }
            if (op != StackCacher.HALT) {
                int enough = Table.NEED[op];
                goesOn(op + " on the items it needs", atDepth(5, enough, op, 9), enough + Table.GROWTH[op]);
            }
        }
    }

    private static void overflow() {
        for (int cells = 4; cells <= 32; cells++) {
            for (int op = 1; op <= 20; op++) {
                int growth = Table.GROWTH[op];
                String what = op + " in " + cells + " cells";
                if (growth > 0) {
                    Checks.dueFault(what + ", all full", atDepth(cells, cells, op, 9), StackCacher.OVERFLOW);
                } else {
                    goesOn(what + ", all full", atDepth(cells, cells, op, 9), cells + growth);
                }
                goesOn(what + ", but one full", atDepth(cells, cells - 1, op, 9), cells - 1 + growth);
            }
        }
    }

    /** READY before a CALL with so many entries in returns, on a stack that is full or empty. */
    private static StackCacher calling(int returnCells, int entries, boolean full) {
        StackCacher x = new StackCacher(8, 4, returnCells, 2);
        x.feed(50);
        int fill = full ? StackCacher.PUSH : StackCacher.HALT;
        Checks.load(x, StackCacher.JUMP, full ? 1 : 5, fill, 1, fill, 2, fill, 3, fill, 4);
        Checks.loadAndCompile(x, StackCacher.CALL, 5, StackCacher.HALT, 0);
        Checks.due("run", x.run((full ? 5 : 1) + entries), StackCacher.READY);
        Checks.due("entries before CALL", x.count(StackCacher.RETURNS), entries);
        return x;
    }

    private static void returnsFull() {
        for (int cells = 1; cells <= 8; cells++) {
            for (int entries = 0; entries < cells; entries++) {
                goesOn("CALL with " + entries + " of " + cells, calling(cells, entries, false), 0);
                goesOn("CALL with " + entries + " of " + cells + " on a full stack", calling(cells, entries, true), 4);
            }
            Checks.dueFault("CALL with all of " + cells, calling(cells, cells, false), StackCacher.RETURNS_FULL);
            Checks.dueFault("CALL with all of " + cells + " on a full stack", calling(cells, cells, true),
                StackCacher.RETURNS_FULL);
        }
    }

    private static StackCacher returning(int items) {
        StackCacher x = Checks.smallest();
        x.feed(50);
        for (int k = 0; k < items; k++) {
            Checks.load(x, StackCacher.PUSH, k);
        }
        Checks.loadAndCompile(x, StackCacher.RET, 0);
        Checks.due("run(" + items + ")", x.run(items), StackCacher.READY);
        return x;
    }

    private static void returnsEmpty() {
        for (int items = 0; items <= 4; items++) {
            Checks.dueFault("RET without CALL on " + items + " items", returning(items), StackCacher.RETURNS_EMPTY);
        }
        StackCacher x = Checks.largest();
        // The RET comes back to itself, and so is met once more than there was a CALL.
        Checks.loadAndCompile(x, StackCacher.CALL, 1, StackCacher.RET, 0);
        Checks.due("run(2)", x.run(2), StackCacher.READY);
        Checks.dueFault("a second RET after one CALL", x, StackCacher.RETURNS_EMPTY);
    }

    private static void waitIn() {
        for (int depth = 0; depth < 4; depth++) {
            StackCacher x = atDepth(4, depth, StackCacher.IN, 0);
            goesOn("IN with two values", x, depth + 1);
        }
        for (int cells = 1; cells <= 8; cells++) {
            StackCacher x = new StackCacher(8, 4, 1, cells);
            Checks.loadAndCompile(x, StackCacher.IN, 0, StackCacher.DROP, 0, StackCacher.JUMP, 0);
            Checks.due("run(1) of IN at the start", x.run(1), StackCacher.WAIT_IN);
            for (int k = 0; k < cells; k++) {
                x.feed(k);
            }
            for (int k = 0; k < cells; k++) {
                Checks.due("run(3) with a value", x.run(3), StackCacher.READY);
            }
            Checks.due("run(1) of IN when all are read", x.run(1), StackCacher.WAIT_IN);
        }
    }

    private static void waitOut() {
        for (int cells = 1; cells <= 8; cells++) {
            StackCacher x = new StackCacher(8, 4, 1, cells);
            Checks.loadAndCompile(x, StackCacher.PUSH, 7, StackCacher.OUT, 0, StackCacher.JUMP, 0);
            for (int k = 0; k < cells; k++) {
                Checks.due("run(3) with " + k + " of " + cells, x.run(3), StackCacher.READY);
            }
            Checks.due("run(1) of PUSH", x.run(1), StackCacher.READY);
            Checks.due("run(1) of OUT with all of " + cells, x.run(1), StackCacher.WAIT_OUT);
            x.take();
            Checks.due("run(1) of OUT with room again", x.run(1), StackCacher.READY);
        }
        StackCacher full = Checks.smallest();
        Checks.loadAndCompile(full, StackCacher.PUSH, 1, StackCacher.OUT, 0, StackCacher.PUSH, 2, StackCacher.PUSH, 3,
            StackCacher.PUSH, 4, StackCacher.PUSH, 5, StackCacher.OUT, 0, StackCacher.HALT, 0);
        Checks.due("run(256) to OUT with a full stack and a full output", full.run(256), StackCacher.WAIT_OUT);
    }

    private static void otherwiseTheEffect() {
        for (int op = 0; op <= 20; op++) {
            StackCacher x = atDepth(8, 4, op, 9);
            int outcome = op == StackCacher.HALT ? StackCacher.HALTED : StackCacher.READY;
            Checks.due("run(1) of " + op, x.run(1), outcome);
            Checks.due("status() after " + op, x.status(), outcome);
            Checks.due("items after " + op, x.count(StackCacher.STACK), 4 + Table.GROWTH[op]);
        }
        for (StackCacher full : new StackCacher[] {Prepared.smallestFull(), Prepared.largestFull()}) {
            String[] want = Checks.parts(full);
            want[Checks.STATUS] = "status 2";
            Checks.due("run(1) of HALT with every area full", full.run(1), StackCacher.HALTED);
            Checks.dueParts("after it", full, want);
        }
    }

    private static void faultsChangeTheStatusAlone() {
        for (int fault = StackCacher.UNDERFLOW; fault <= StackCacher.RETURNS_FULL; fault++) {
            StackCacher x = Prepared.inStatus(fault);
            x.edit();
            x.take();
            x.take();
            x.compile();
            // In slices of one up to the fault, and then over it.
            int executed = 0;
            String[] before = Checks.parts(x);
            while (executed < 100 && x.run(1) == StackCacher.READY) {
                before = Checks.parts(x);
                executed++;
            }
            before[Checks.STATUS] = "status " + fault;
            Checks.dueParts("at fault " + fault, x, before);
            Checks.dueParts("at fault " + fault, x, Prepared.parts(fault));
        }
    }

    private static void waitsChangeNothing() {
        for (int n : new int[] {1, 2, 255, 256, 257, Checks.HIGH}) {
            Checks.noEffect("run(" + n + ") while waiting for input", Prepared::waitingForInput, x -> x.run(n),
                StackCacher.WAIT_IN);
            Checks.noEffect("run(" + n + ") while waiting for output", Prepared::waitingForOutput, x -> x.run(n),
                StackCacher.WAIT_OUT);
        }
        Checks.dueText("waiting for input", Checks.state(Prepared.waitingForInput()),
            "status 1 pc 4 [6] [3] [] [5] [1 16 19 1 15 10 17] [5 0 3 6 0 0 4]");
        Checks.dueText("waiting for output", Checks.state(Prepared.waitingForOutput()),
            "status 1 pc 3 [4 4] [1] [70] [1 2 3] [19 1 2 16 9 17] [1 1 0 0 1 2]");
    }

    private static void theSameInstructionAgain() {
        StackCacher in = Prepared.waitingForInput();
        for (int k = 1; k <= 20; k++) {
            Checks.due("run(0) while IN waits", in.run(0), StackCacher.READY);
            Checks.due("run(1) while IN waits", in.run(1), StackCacher.WAIT_IN);
            in.feed(k);
            Checks.due("run(1) with input", in.run(1), StackCacher.READY);
            Checks.due("the value read", in.view(StackCacher.STACK, 0), k);
            Checks.due("pc() behind IN", in.pc(), 5);
            Checks.due("run(256) to the next IN", in.run(256), StackCacher.WAIT_IN);
        }
        StackCacher out = Prepared.waitingForOutput();
        for (int k = 1; k <= 20; k++) {
            Checks.due("run(0) while OUT waits", out.run(0), StackCacher.READY);
            Checks.due("run(1) while OUT waits", out.run(1), StackCacher.WAIT_OUT);
            Checks.due("take()", out.take(), k);
            Checks.due("run(1) with room", out.run(1), StackCacher.READY);
            Checks.due("the value written", out.view(StackCacher.OUTPUT, 2), k + 3);
            Checks.due("pc() behind OUT", out.pc(), 4);
            Checks.due("run(256) to the next OUT", out.run(256), StackCacher.WAIT_OUT);
        }
    }

    private static void unlessEditOrClear() {
        StackCacher in = Prepared.waitingForInput();
        in.edit();
        Checks.due("run(1) after edit", in.run(1), StackCacher.REFUSED);
        in.compile();
        Checks.due("run(1) of the first instruction", in.run(1), StackCacher.READY);
        Checks.dueText("state after it", Checks.state(in),
            "status 1 pc 1 [5] [] [] [5] [1 16 19 1 15 10 17] [5 0 3 6 0 0 4]");
        StackCacher out = Prepared.waitingForOutput();
        out.clear();
        Checks.due("run(1) after clear", out.run(1), StackCacher.REFUSED);
        Checks.loadAndCompile(out, StackCacher.PUSH, 8, StackCacher.HALT, 0);
        Checks.due("run(1) of the new program", out.run(1), StackCacher.READY);
        Checks.dueText("state after it", Checks.state(out), "status 1 pc 1 [8] [] [] [] [1 0] [8 0]");
    }

    /** Reads 3, writes it, calls, and comes to the instruction at 4 with 8 on the stack. */
    private static StackCacher earlier(int outcome, int op, int arg) {
        StackCacher x = new StackCacher(8, 4, 1, 1);
        x.feed(3);
        Checks.loadAndCompile(x, StackCacher.IN, 0, StackCacher.OUT, 0, StackCacher.CALL, 3, StackCacher.PUSH, 8,
            op, arg, StackCacher.JUMP, 4);
        Checks.due("run(256) to outcome " + outcome, x.run(256), outcome);
        return x;
    }

    private static void earlierEffectsRemain() {
        Checks.dueText("after UNDERFLOW", Checks.state(earlier(StackCacher.UNDERFLOW, StackCacher.SUB, 0)),
            "status 3 pc 4 [8] [3] [] [3] [15 16 19 1 11 17] [0 0 3 8 0 4]");
        Checks.dueText("after OVERFLOW", Checks.state(earlier(StackCacher.OVERFLOW, StackCacher.DUP, 0)),
            "status 4 pc 4 [8 8 8 8] [3] [] [3] [15 16 19 1 2 17] [0 0 3 8 0 4]");
        Checks.dueText("after RETURNS_FULL", Checks.state(earlier(StackCacher.RETURNS_FULL, StackCacher.CALL, 0)),
            "status 6 pc 4 [8] [3] [] [3] [15 16 19 1 19 17] [0 0 3 8 0 4]");
        Checks.dueText("after RETURNS_EMPTY", Checks.state(earlier(StackCacher.RETURNS_EMPTY, StackCacher.RET, 0)),
            "status 5 pc 4 [8 8] [] [] [3] [15 16 19 1 20 17] [0 0 3 8 0 4]");
        Checks.dueText("after WAIT_IN", Checks.state(earlier(StackCacher.WAIT_IN, StackCacher.IN, 0)),
            "status 1 pc 4 [8] [3] [] [3] [15 16 19 1 15 17] [0 0 3 8 0 4]");
        Checks.dueText("after WAIT_OUT", Checks.state(earlier(StackCacher.WAIT_OUT, StackCacher.OUT, 0)),
            "status 1 pc 4 [8] [3] [] [3] [15 16 19 1 16 17] [0 0 3 8 0 4]");
    }

    private static void overflowBeforeWaitIn() {
        for (int values = 0; values <= 1; values++) {
            StackCacher x = Checks.smallest();
            Checks.loadAndCompile(x, StackCacher.PUSH, 1, StackCacher.PUSH, 2, StackCacher.PUSH, 3,
                StackCacher.PUSH, 4, StackCacher.IN, 0, StackCacher.HALT, 0);
            Checks.due("run(4)", x.run(4), StackCacher.READY);
            if (values == 1) {
                x.feed(9);
            }
            Checks.dueFault("IN on a full stack with " + values + " values", x, StackCacher.OVERFLOW);
        }
    }

    private static void underflowBeforeWaitOut() {
        for (int values = 0; values <= 1; values++) {
            StackCacher x = Checks.smallest();
            Checks.loadAndCompile(x, StackCacher.PUSH, 1, StackCacher.OUT, 0, StackCacher.OUT, 0, StackCacher.HALT, 0);
            Checks.due("run(2)", x.run(2), StackCacher.READY);
            if (values == 0) {
                x.take();
            }
            Checks.dueFault("OUT on an empty stack with " + values + " of 1 in output", x, StackCacher.UNDERFLOW);
        }
    }
}
