/** Promise 10: run by status and slice, and every instruction with its faults and waits. */
final class Promise10RunTest {
    private static final int ROOM = 4;

    public static void main(String[] args) {
        byStatus();
        sliceSizes();
        effectsOnTheStack();
        arithmeticWraps();
        everyNeedAndGrowth();
        branches();
        callsAndReturns();
        waits();
        faultsComeBeforeWaits();
        faultsKeepEarlierEffects();
        programIsNeverChanged();
        Checks.finish();
    }

    private static void byStatus() {
        for (int status = 0; status <= 6; status++) {
            if (status == StackCacher.READY) {
                continue;
            }
            StackCacher x = Checks.inStatus(status);
            String before = Checks.state(x);
            for (int n : new int[] {Checks.LOW, -1, 0, 1, 256, Checks.HIGH}) {
                int want = status == StackCacher.EDITING ? StackCacher.REFUSED : status;
                Checks.due("run(" + n + ") in status " + status, x.run(n), want);
                Checks.dueText("state after it", Checks.state(x), before);
            }
        }
    }

    private static void sliceSizes() {
        int[][] given = {{Checks.LOW, 0}, {-1, 0}, {0, 0}, {1, 1}, {2, 2}, {255, 255}, {256, 256}, {257, 256},
            {1000, 256}, {Checks.HIGH, 256}};
        for (int[] pair : given) {
            StackCacher x = Checks.largest();
            Checks.loadAndCompile(x, StackCacher.PUSH, 0, StackCacher.ADDI, 1, StackCacher.ADDI, 1,
                StackCacher.ADDI, 1, StackCacher.ADDI, 1, StackCacher.ADDI, 1, StackCacher.ADDI, 1,
                StackCacher.ADDI, 1, StackCacher.ADDI, 1, StackCacher.JUMP, 1);
            Checks.due("run(1)", x.run(1), StackCacher.READY);
            String before = Checks.state(x);
            Checks.due("run(" + pair[0] + ")", x.run(pair[0]), StackCacher.READY);
            int executed = pair[1];
            Checks.due("pc() after run(" + pair[0] + ")", x.pc(), 1 + executed % 9);
            Checks.due("top after run(" + pair[0] + ")", x.view(StackCacher.STACK, 0), executed - executed / 9);
            if (executed == 0) {
                Checks.dueText("state after run(" + pair[0] + ")", Checks.state(x), before);
            }
        }
        StackCacher x = Checks.largest();
        Checks.loadAndCompile(x, StackCacher.PUSH, 4, StackCacher.HALT, 0);
        Checks.due("run(1)", x.run(1), StackCacher.READY);
        Checks.due("run(0) before HALT", x.run(0), StackCacher.READY);
        Checks.due("run(1) at HALT", x.run(1), StackCacher.HALTED);
        Checks.dueText("halted", Checks.state(x), "status 2 pc 1 [4] [] [] [] [1 0] [4 0]");
    }

    /** Runs one instruction on a stack given from the bottom to the top. */
    private static void effect(int op, int arg, int[] before, String after) {
        StackCacher x = Checks.largest();
        for (int v : before) {
            Checks.load(x, StackCacher.PUSH, v);
        }
        Checks.loadAndCompile(x, op, arg, StackCacher.HALT, 0);
        x.run(before.length);
        Checks.due("run(1) of " + op, x.run(1), StackCacher.READY);
        Checks.due("pc() after " + op, x.pc(), before.length + 1);
        Checks.dueArea("after " + op, x, StackCacher.STACK, after);
        Checks.due("run(1) of HALT", x.run(1), StackCacher.HALTED);
        Checks.dueArea("after HALT", x, StackCacher.STACK, after);
    }

    private static void effectsOnTheStack() {
        int[] four = {1, 2, 3, 9};
        // The wanted stacks are written as view tells them, the top first.
        effect(StackCacher.PUSH, Checks.LOW, four, "[-2147483648 9 3 2 1]");
        effect(StackCacher.DUP, 77, four, "[9 9 3 2 1]");
        effect(StackCacher.DROP, 77, four, "[3 2 1]");
        effect(StackCacher.SWAP, 77, four, "[3 9 2 1]");
        effect(StackCacher.OVER, 77, four, "[3 9 3 2 1]");
        effect(StackCacher.ROT, 77, four, "[2 9 3 1]");
        effect(StackCacher.NIP, 77, four, "[9 2 1]");
        effect(StackCacher.TUCK, 77, four, "[9 3 9 2 1]");
        effect(StackCacher.ADDI, 77, four, "[86 3 2 1]");
        effect(StackCacher.ADD, 77, four, "[12 2 1]");
        effect(StackCacher.SUB, 77, four, "[-6 2 1]");
        effect(StackCacher.MUL, 77, four, "[27 2 1]");
        effect(StackCacher.XOR, 77, four, "[10 2 1]");
        effect(StackCacher.LESS, 77, four, "[1 2 1]");
        // With just the items needed, nothing lies below.
        effect(StackCacher.DUP, 0, new int[] {6}, "[6 6]");
        effect(StackCacher.DROP, 0, new int[] {6}, "[]");
        effect(StackCacher.SWAP, 0, new int[] {6, 7}, "[6 7]");
        effect(StackCacher.OVER, 0, new int[] {6, 7}, "[6 7 6]");
        effect(StackCacher.ROT, 0, new int[] {6, 7, 8}, "[6 8 7]");
        effect(StackCacher.NIP, 0, new int[] {6, 7}, "[7]");
        effect(StackCacher.TUCK, 0, new int[] {6, 7}, "[7 6 7]");
        effect(StackCacher.SUB, 0, new int[] {6, 7}, "[-1]");
    }

    private static void arithmeticWraps() {
        int low = Checks.LOW;
        int high = Checks.HIGH;
        effect(StackCacher.ADDI, 1, new int[] {high}, "[-2147483648]");
        effect(StackCacher.ADDI, -1, new int[] {low}, "[2147483647]");
        effect(StackCacher.ADDI, low, new int[] {low}, "[0]");
        effect(StackCacher.ADD, 0, new int[] {high, high}, "[-2]");
        effect(StackCacher.ADD, 0, new int[] {low, -1}, "[2147483647]");
        effect(StackCacher.SUB, 0, new int[] {low, 1}, "[2147483647]");
        effect(StackCacher.SUB, 0, new int[] {0, low}, "[-2147483648]");
        effect(StackCacher.MUL, 0, new int[] {high, high}, "[1]");
        effect(StackCacher.MUL, 0, new int[] {low, -1}, "[-2147483648]");
        effect(StackCacher.MUL, 0, new int[] {65536, 65536}, "[0]");
        effect(StackCacher.XOR, 0, new int[] {low, high}, "[-1]");
        effect(StackCacher.XOR, 0, new int[] {-1, -1}, "[0]");
        effect(StackCacher.LESS, 0, new int[] {low, high}, "[1]");
        effect(StackCacher.LESS, 0, new int[] {high, low}, "[0]");
        effect(StackCacher.LESS, 0, new int[] {-1, 0}, "[1]");
        effect(StackCacher.LESS, 0, new int[] {0, -1}, "[0]");
        effect(StackCacher.LESS, 0, new int[] {5, 5}, "[0]");
    }

    /** Every opcode on every depth of a stack of four, against the document's table. */
    private static void everyNeedAndGrowth() {
        int[] need = {0, 0, 1, 1, 2, 2, 3, 2, 2, 1, 2, 2, 2, 2, 2, 0, 1, 0, 1, 0, 0};
        int[] growth = {0, 1, 1, -1, 0, 1, 0, -1, 1, 0, -1, -1, -1, -1, -1, 1, -1, 0, -1, 0, 0};
        for (int op = 0; op <= 20; op++) {
            for (int depth = 0; depth <= ROOM; depth++) {
                oneDepth(op, depth, need[op], growth[op]);
            }
        }
    }

    private static void oneDepth(int op, int depth, int need, int growth) {
        String what = "run(1) of " + op + " on " + depth + " items";
        StackCacher x = new StackCacher(24, ROOM, 2, 2);
        x.feed(50);
        // A CALL first, so that RET finds an entry.
        Checks.load(x, StackCacher.CALL, 1);
        for (int k = 0; k < depth; k++) {
            Checks.load(x, StackCacher.PUSH, 3 + k);
        }
        Checks.loadAndCompile(x, op, 0, StackCacher.HALT, 0);
        x.run(depth + 1);
        String before = Checks.state(x);
        int fault = depth < need ? StackCacher.UNDERFLOW : depth + growth > ROOM ? StackCacher.OVERFLOW : 0;
        if (fault != 0) {
            Checks.due(what, x.run(1), fault);
            Checks.dueText("state after " + what, Checks.state(x), before.replace("status 1", "status " + fault));
            Checks.due("pc() after " + what, x.pc(), depth + 1);
            Checks.due("run(5) after a fault", x.run(5), fault);
        } else {
            Checks.due(what, x.run(1), op == StackCacher.HALT ? StackCacher.HALTED : StackCacher.READY);
            Checks.due("items after " + what, x.count(StackCacher.STACK), depth + growth);
            Checks.due("input after " + what, x.count(StackCacher.INPUT), op == StackCacher.IN ? 0 : 1);
            Checks.due("output after " + what, x.count(StackCacher.OUTPUT), op == StackCacher.OUT ? 1 : 0);
            int entries = op == StackCacher.CALL ? 2 : op == StackCacher.RET ? 0 : 1;
            Checks.due("returns after " + what, x.count(StackCacher.RETURNS), entries);
        }
    }

    private static void branches() {
        for (int v : new int[] {0, 1, -1, Checks.LOW, Checks.HIGH}) {
            StackCacher x = Checks.largest();
            Checks.loadAndCompile(x, StackCacher.PUSH, 4, StackCacher.PUSH, v, StackCacher.JZ, 4,
                StackCacher.HALT, 0, StackCacher.JUMP, 3);
            x.run(2);
            Checks.due("run(1) of JZ on " + v, x.run(1), StackCacher.READY);
            Checks.due("pc() after JZ on " + v, x.pc(), v == 0 ? 4 : 3);
            Checks.dueArea("after JZ on " + v, x, StackCacher.STACK, "[4]");
            Checks.due("run(256)", x.run(256), StackCacher.HALTED);
            Checks.due("pc() at the HALT", x.pc(), 3);
        }
        StackCacher loop = Checks.largest();
        Checks.loadAndCompile(loop, StackCacher.JUMP, 0);
        Checks.due("run(256) of a JUMP to itself", loop.run(256), StackCacher.READY);
        Checks.dueText("state after it", Checks.state(loop), "status 1 pc 0 [] [] [] [] [17] [0]");
    }

    private static void callsAndReturns() {
        StackCacher x = new StackCacher(8, 4, 2, 1);
        Checks.loadAndCompile(x, StackCacher.CALL, 2, StackCacher.HALT, 0, StackCacher.CALL, 4,
            StackCacher.RET, 77, StackCacher.RET, 77);
        Checks.due("run(1) of CALL", x.run(1), StackCacher.READY);
        Checks.due("pc()", x.pc(), 2);
        Checks.dueArea("after one CALL", x, StackCacher.RETURNS, "[1]");
        Checks.due("run(1) of CALL", x.run(1), StackCacher.READY);
        Checks.due("pc()", x.pc(), 4);
        Checks.dueArea("after two CALLs", x, StackCacher.RETURNS, "[3 1]");
        Checks.due("run(1) of RET", x.run(1), StackCacher.READY);
        Checks.due("pc()", x.pc(), 3);
        Checks.dueArea("after a RET", x, StackCacher.RETURNS, "[1]");
        Checks.due("run(1) of RET", x.run(1), StackCacher.READY);
        Checks.due("pc()", x.pc(), 1);
        Checks.dueArea("after both RETs", x, StackCacher.RETURNS, "[]");
        Checks.due("run(1) of HALT", x.run(1), StackCacher.HALTED);

        StackCacher full = new StackCacher(8, 4, 3, 1);
        Checks.loadAndCompile(full, StackCacher.PUSH, 9, StackCacher.CALL, 1, StackCacher.HALT, 0);
        Checks.due("run(4)", full.run(4), StackCacher.READY);
        Checks.due("run(1) of one CALL too many", full.run(1), StackCacher.RETURNS_FULL);
        Checks.dueText("state after it", Checks.state(full), "status 6 pc 1 [9] [2 2 2] [] [] [1 19 0] [9 1 0]");

        StackCacher none = Checks.largest();
        Checks.loadAndCompile(none, StackCacher.PUSH, 9, StackCacher.RET, 0);
        Checks.due("run(256) to a RET without CALL", none.run(256), StackCacher.RETURNS_EMPTY);
        Checks.dueText("state after it", Checks.state(none), "status 5 pc 1 [9] [] [] [] [1 20] [9 0]");
    }

    private static void waits() {
        StackCacher x = new StackCacher(8, 4, 1, 2);
        Checks.loadAndCompile(x, StackCacher.IN, 0, StackCacher.DUP, 0, StackCacher.OUT, 0, StackCacher.JUMP, 1);
        Checks.due("run(5) without input", x.run(5), StackCacher.WAIT_IN);
        Checks.due("run(0) without input", x.run(0), StackCacher.READY);
        Checks.due("run(5) again", x.run(5), StackCacher.WAIT_IN);
        Checks.dueText("waiting for input", Checks.state(x), "status 1 pc 0 [] [] [] [] [15 2 16 17] [0 0 0 1]");
        x.feed(6);
        x.feed(7);
        Checks.due("run(256) to a full output", x.run(256), StackCacher.WAIT_OUT);
        String waiting = "status 1 pc 2 [6 6] [] [7] [6 6] [15 2 16 17] [0 0 0 1]";
        Checks.dueText("waiting for output", Checks.state(x), waiting);
        Checks.due("run(1) again", x.run(1), StackCacher.WAIT_OUT);
        Checks.due("run(0)", x.run(0), StackCacher.READY);
        Checks.dueText("still waiting", Checks.state(x), waiting);
        x.take();
        Checks.due("run(1) with room", x.run(1), StackCacher.READY);
        Checks.dueText("written", Checks.state(x), "status 1 pc 3 [6] [] [7] [6 6] [15 2 16 17] [0 0 0 1]");
    }

    private static void faultsComeBeforeWaits() {
        StackCacher in = Checks.smallest();
        Checks.loadAndCompile(in, StackCacher.PUSH, 1, StackCacher.PUSH, 2, StackCacher.PUSH, 3,
            StackCacher.PUSH, 4, StackCacher.IN, 0, StackCacher.HALT, 0);
        Checks.due("IN on a full stack without input", in.run(256), StackCacher.OVERFLOW);
        StackCacher out = Checks.smallest();
        Checks.loadAndCompile(out, StackCacher.PUSH, 1, StackCacher.OUT, 0, StackCacher.OUT, 0, StackCacher.HALT, 0);
        Checks.due("OUT on an empty stack with a full output", out.run(256), StackCacher.UNDERFLOW);
        Checks.dueText("state after it", Checks.state(out), "status 3 pc 2 [] [] [] [1] [1 16 16 0] [1 0 0 0]");
    }

    private static void faultsKeepEarlierEffects() {
        StackCacher x = Checks.largest();
        x.feed(3);
        x.feed(4);
        Checks.loadAndCompile(x, StackCacher.IN, 0, StackCacher.OUT, 0, StackCacher.CALL, 3,
            StackCacher.PUSH, 8, StackCacher.SUB, 0, StackCacher.HALT, 0);
        Checks.due("run(256) to a fault", x.run(256), StackCacher.UNDERFLOW);
        Checks.dueText("state after it", Checks.state(x),
            "status 3 pc 4 [8] [3] [4] [3] [15 16 19 1 11 0] [0 0 3 8 0 0]");
    }

    private static void programIsNeverChanged() {
        StackCacher x = Checks.largest();
        for (int op = 1; op <= 20; op++) {
            Checks.load(x, op, op);
        }
        String ops = Checks.area(x, StackCacher.OPS);
        String operands = Checks.area(x, StackCacher.ARGS);
        x.compile();
        x.run(256);
        Checks.dueArea("after the run", x, StackCacher.OPS, ops);
        Checks.dueArea("after the run", x, StackCacher.ARGS, operands);
    }
}
