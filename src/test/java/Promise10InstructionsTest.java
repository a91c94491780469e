import java.util.function.LongBinaryOperator;

/** Promise 10, "The instructions": each row of the table, and the sentences around it. */
final class Promise10InstructionsTest {
    private static final int CELLS = 7;

    public static void main(String[] args) {
        Checks.sentence(" 0  HALT   ( -- )                 0     0    status becomes HALTED, pc stays",
            Promise10InstructionsTest::halt);
        Checks.sentence(" 1  PUSH   ( -- a )               0     1",
            () -> row(StackCacher.PUSH, 9, items(), items(9)));
        Checks.sentence(" 2  DUP    ( x -- x x )           1     1",
            () -> row(StackCacher.DUP, 9, items(1), items(1, 1)));
        Checks.sentence(" 3  DROP   ( x -- )               1    -1",
            () -> row(StackCacher.DROP, 9, items(1), items()));
        Checks.sentence(" 4  SWAP   ( x y -- y x )         2     0",
            () -> row(StackCacher.SWAP, 9, items(1, 2), items(2, 1)));
        Checks.sentence(" 5  OVER   ( x y -- x y x )       2     1",
            () -> row(StackCacher.OVER, 9, items(1, 2), items(1, 2, 1)));
        Checks.sentence(" 6  ROT    ( x y z -- y z x )     3     0",
            () -> row(StackCacher.ROT, 9, items(1, 2, 3), items(2, 3, 1)));
        Checks.sentence(" 7  NIP    ( x y -- y )           2    -1",
            () -> row(StackCacher.NIP, 9, items(1, 2), items(2)));
        Checks.sentence(" 8  TUCK   ( x y -- y x y )       2     1",
            () -> row(StackCacher.TUCK, 9, items(1, 2), items(2, 1, 2)));
        Checks.sentence(" 9  ADDI   ( x -- x+a )           1     0",
            () -> row(StackCacher.ADDI, 9, items(20), items(29)));
        Checks.sentence("10  ADD    ( x y -- x+y )         2    -1",
            () -> row(StackCacher.ADD, 9, items(20, 3), items(23)));
        Checks.sentence("11  SUB    ( x y -- x-y )         2    -1",
            () -> row(StackCacher.SUB, 9, items(20, 3), items(17)));
        Checks.sentence("12  MUL    ( x y -- x*y )         2    -1",
            () -> row(StackCacher.MUL, 9, items(20, 3), items(60)));
        Checks.sentence("13  XOR    ( x y -- x^y )         2    -1    bitwise exclusive or",
            () -> row(StackCacher.XOR, 9, items(20, 7), items(19)));
        Checks.sentence("14  LESS   ( x y -- r )           2    -1    r is 1 if x < y (signed), else 0",
            () -> row(StackCacher.LESS, 9, items(3, 20), items(1)));
        Checks.sentence("15  IN     ( -- v )               0     1    v is removed from the front of input",
            Promise10InstructionsTest::in);
        Checks.sentence("16  OUT    ( x -- )               1    -1    x is appended at the back of output",
            Promise10InstructionsTest::out);
        Checks.sentence("17  JUMP   ( -- )                 0     0    pc becomes a",
            Promise10InstructionsTest::jump);
        Checks.sentence("18  JZ     ( x -- )               1    -1    pc becomes a if x is 0, else pc+1",
            Promise10InstructionsTest::jz);
        Checks.sentence("19  CALL   ( -- )                 0     0    pc+1 is put on returns, then pc becomes a",
            Promise10InstructionsTest::call);
        Checks.sentence("20  RET    ( -- )                 0     0    the top of returns is removed and becomes pc",
            Promise10InstructionsTest::ret);
        Checks.sentence("what lies below is untouched", Promise10InstructionsTest::belowIsUntouched);
        Checks.sentence("'need' is the number of items before, 'growth' is the number of items after less the number "
            + "before.", Promise10InstructionsTest::needAndGrowth);
        Checks.sentence("a is the operand", Promise10InstructionsTest::anyOperand);
        Checks.sentence("instructions whose effect does not mention a ignore it",
            Promise10InstructionsTest::operandsIgnored);
        Checks.sentence("Arithmetic is that of Java ints and wraps.", Promise10InstructionsTest::arithmetic);
        Checks.sentence("bitwise exclusive or", Promise10InstructionsTest::exclusiveOr);
        Checks.sentence("r is 1 if x < y (signed), else 0", Promise10InstructionsTest::signedLess);
        Checks.sentence("After every instruction other than `HALT`, `JUMP`, `JZ`, `CALL` and `RET`, pc becomes pc+1.",
            Promise10InstructionsTest::theNextInstruction);
        Checks.sentence("Among the instructions, only `IN` changes input, only `OUT` changes output, and only `CALL` "
            + "and `RET` change returns.", Promise10InstructionsTest::queuesAndReturns);
        Checks.finish();
    }

    private static int[] items(int... values) {
        return values;
    }

    /** The stack as view tells it, the top first; both parts are given from the bottom up. */
    private static String stack(int below, int... items) {
        StringBuilder text = new StringBuilder();
        for (int k = items.length - 1; k >= 0; k--) {
            text.append(" ").append(items[k]);
        }
        for (int k = below - 1; k >= 0; k--) {
            text.append(" ").append(-100 - k);
        }
        return "[" + text.toString().trim() + "]";
    }

    /**
     * READY before (op, arg), which stands at index 3 + below + items.length and is followed by a HALT. Below the
     * items lie others; returns is [3], input [50 51] and output [60], and all three have room.
     */
    private static StackCacher before(int op, int arg, int below, int... items) {
        StackCacher x = new StackCacher(24, CELLS, 2, 3);
        Checks.load(x, StackCacher.PUSH, 60, StackCacher.OUT, 0, StackCacher.CALL, 3);
        for (int k = 0; k < below; k++) {
            Checks.load(x, StackCacher.PUSH, -100 - k);
        }
        for (int item : items) {
            Checks.load(x, StackCacher.PUSH, item);
        }
        Checks.loadAndCompile(x, op, arg, StackCacher.HALT, 0);
        x.feed(50);
        x.feed(51);
        Checks.due("run up to " + op, x.run(3 + below + items.length), StackCacher.READY);
        return x;
    }

    /** Executes the instruction, which must leave the state as told by want. */
    private static void dueAfter(String what, StackCacher x, String[] want) {
        Checks.due("run(1) of " + what, x.run(1), StackCacher.READY);
        Checks.dueParts("after " + what, x, want);
    }

    /** One row of an instruction that works on the stack alone: on every depth, from nothing to a full stack. */
    private static void row(int op, int arg, int[] before, int[] after) {
        for (int below = 0; below + before.length <= CELLS; below++) {
            String what = op + " over " + below + " others";
            StackCacher x = before(op, arg, below, before);
            if (below + after.length > CELLS) {
                Checks.dueFault(what, x, StackCacher.OVERFLOW);
            } else {
                String[] want = Checks.parts(x);
                want[StackCacher.STACK] = stack(below, after);
                want[Checks.PC] = "pc " + (x.pc() + 1);
                dueAfter(what, x, want);
            }
        }
        for (int depth = 0; depth < before.length; depth++) {
            Checks.dueFault(op + " on " + depth + " items", before(op, arg, depth), StackCacher.UNDERFLOW);
        }
    }

    private static void halt() {
        for (int below = 0; below <= CELLS; below++) {
            StackCacher x = before(StackCacher.HALT, 9, below);
            String[] want = Checks.parts(x);
            want[Checks.STATUS] = "status 2";
            Checks.due("run(1) of HALT", x.run(1), StackCacher.HALTED);
            Checks.dueParts("after HALT on " + below + " items", x, want);
        }
    }

    private static void in() {
        for (int below = 0; below < CELLS; below++) {
            StackCacher x = before(StackCacher.IN, 9, below);
            String[] want = Checks.parts(x);
            want[StackCacher.STACK] = stack(below, 50);
            want[StackCacher.INPUT] = "[51]";
            want[Checks.PC] = "pc " + (x.pc() + 1);
            dueAfter("IN on " + below + " items", x, want);
        }
        Checks.dueFault("IN on a full stack", before(StackCacher.IN, 9, CELLS), StackCacher.OVERFLOW);
    }

    private static void out() {
        for (int below = 0; below < CELLS; below++) {
            StackCacher x = before(StackCacher.OUT, 9, below, 1);
            String[] want = Checks.parts(x);
            want[StackCacher.STACK] = stack(below);
            want[StackCacher.OUTPUT] = "[60 1]";
            want[Checks.PC] = "pc " + (x.pc() + 1);
            dueAfter("OUT over " + below + " others", x, want);
        }
        Checks.dueFault("OUT on no item", before(StackCacher.OUT, 9, 0), StackCacher.UNDERFLOW);
    }

    private static void jump() {
        for (int below = 0; below <= CELLS; below++) {
            for (int target = 0; target < 5 + below; target++) {
                StackCacher x = before(StackCacher.JUMP, target, below);
                String[] want = Checks.parts(x);
                want[Checks.PC] = "pc " + target;
                dueAfter("JUMP to " + target, x, want);
            }
        }
        StackCacher last = fullOfJumps();
        Checks.due("run(1) of a JUMP to the last of 24", last.run(1), StackCacher.READY);
        Checks.due("pc()", last.pc(), 23);
        Checks.due("run(1) of the last of 24", last.run(1), StackCacher.READY);
        Checks.due("pc()", last.pc(), 0);
    }

    private static StackCacher fullOfJumps() {
        StackCacher x = Checks.largest();
        for (int at = 0; at < 24; at++) {
            Checks.load(x, StackCacher.JUMP, 23 - at);
        }
        Checks.due("compile()", x.compile(), StackCacher.READY);
        return x;
    }

    private static void jz() {
        for (int v : Checks.ANY_INT) {
            for (int target = 0; target < 8; target++) {
                StackCacher x = before(StackCacher.JZ, target, 2, v);
                String[] want = Checks.parts(x);
                want[StackCacher.STACK] = stack(2);
                want[Checks.PC] = "pc " + (v == 0 ? target : 7);
                dueAfter("JZ to " + target + " on " + v, x, want);
            }
        }
        StackCacher full = before(StackCacher.JZ, 0, CELLS - 1, 0);
        String[] want = Checks.parts(full);
        want[StackCacher.STACK] = stack(CELLS - 1);
        want[Checks.PC] = "pc 0";
        dueAfter("JZ on a full stack", full, want);
        Checks.dueFault("JZ on no item", before(StackCacher.JZ, 0, 0), StackCacher.UNDERFLOW);
    }

    private static void call() {
        for (int below = 0; below <= CELLS; below++) {
            for (int target = 0; target < 5 + below; target++) {
                StackCacher x = before(StackCacher.CALL, target, below);
                String[] want = Checks.parts(x);
                want[StackCacher.RETURNS] = "[" + (x.pc() + 1) + " 3]";
                want[Checks.PC] = "pc " + target;
                dueAfter("CALL of " + target, x, want);
            }
        }
        StackCacher x = before(StackCacher.CALL, 3, 0);
        x.run(1);
        Checks.dueFault("CALL with returns full", x, StackCacher.RETURNS_FULL);
    }

    private static void ret() {
        for (int below = 0; below <= CELLS; below++) {
            StackCacher x = before(StackCacher.RET, 9, below);
            String[] want = Checks.parts(x);
            want[StackCacher.RETURNS] = "[]";
            want[Checks.PC] = "pc 3";
            dueAfter("RET on " + below + " items", x, want);
        }
        StackCacher nested = Checks.largest();
        // Eight CALLs one inside the other: each goes to a JUMP to the next one, the last to the RET.
        for (int at = 0; at < 8; at++) {
            Checks.load(nested, StackCacher.CALL, at + 9);
        }
        Checks.load(nested, StackCacher.HALT, 0);
        for (int at = 9; at < 16; at++) {
            Checks.load(nested, StackCacher.JUMP, at - 8);
        }
        Checks.loadAndCompile(nested, StackCacher.RET, 0);
        Checks.due("run(15)", nested.run(15), StackCacher.READY);
        Checks.dueArea("after eight CALLs", nested, StackCacher.RETURNS, "[8 7 6 5 4 3 2 1]");
        Checks.due("run(1) of RET", nested.run(1), StackCacher.READY);
        Checks.due("pc() after RET", nested.pc(), 8);
        Checks.dueArea("after RET", nested, StackCacher.RETURNS, "[7 6 5 4 3 2 1]");
        Checks.due("run(1) of HALT", nested.run(1), StackCacher.HALTED);
    }

    private static void belowIsUntouched() {
        for (int op = StackCacher.PUSH; op <= StackCacher.RET; op++) {
            for (int below = 0; below <= 3; below++) {
                StackCacher x = before(op, 2, below, 0, 0, 0);
                Checks.due("run(1) of " + op, x.run(1), StackCacher.READY);
                int left = x.count(StackCacher.STACK);
                for (int k = 0; k < below; k++) {
                    Checks.due("item " + k + " from the bottom after " + op, x.view(StackCacher.STACK, left - 1 - k),
                        -100 - k);
                }
            }
        }
    }

    private static void needAndGrowth() {
        for (int op = 0; op <= 20; op++) {
            for (int depth = 0; depth <= CELLS; depth++) {
                String what = op + " on " + depth + " items";
                StackCacher x = before(op, 2, depth);
                int after = depth + Table.GROWTH[op];
                int want = depth < Table.NEED[op] ? StackCacher.UNDERFLOW : after > CELLS ? StackCacher.OVERFLOW
                    : op == StackCacher.HALT ? StackCacher.HALTED : StackCacher.READY;
                Checks.due("run(1) of " + what, x.run(1), want);
                boolean fault = want == StackCacher.UNDERFLOW || want == StackCacher.OVERFLOW;
                Checks.due("items after " + what, x.count(StackCacher.STACK), fault ? depth : after);
            }
        }
    }

    private static void anyOperand() {
        for (int arg : Checks.ANY_INT) {
            row(StackCacher.PUSH, arg, items(), items(arg));
            row(StackCacher.ADDI, arg, items(0), items(arg));
        }
    }

    private static void operandsIgnored() {
        for (int op = 0; op <= 20; op++) {
            boolean mentions = op == StackCacher.PUSH || op == StackCacher.ADDI || op == StackCacher.JUMP
                || op == StackCacher.JZ || op == StackCacher.CALL;
            if (mentions) {
                continue;
            }
            StackCacher plain = before(op, 0, 0, 11, 12, 13, 14);
            int outcome = plain.run(1);
            String[] want = Checks.parts(plain);
            for (int arg : Checks.ANY_INT) {
                StackCacher x = before(op, arg, 0, 11, 12, 13, 14);
                Checks.due("run(1) of " + op + " with operand " + arg, x.run(1), outcome);
                want[StackCacher.ARGS] = "[60 0 3 11 12 13 14 " + arg + " 0]";
                Checks.dueParts("after " + op + " with operand " + arg, x, want);
            }
        }
    }

    /** The result must be what whole numbers without bound give, cut to 32 bits. */
    private static void everyPair(int op, LongBinaryOperator whole) {
        for (int x : Checks.ANY_INT) {
            for (int y : Checks.ANY_INT) {
                StackCacher machine = before(op, 0, 1, x, y);
                Checks.due("run(1)", machine.run(1), StackCacher.READY);
                String want = stack(1, (int) whole.applyAsLong(x, y));
                Checks.dueArea("after " + op + " on " + x + ", " + y, machine, StackCacher.STACK, want);
            }
        }
    }

    private static void gives(int op, int arg, int[] before, int after) {
        StackCacher x = before(op, arg, 0, before);
        Checks.due("run(1)", x.run(1), StackCacher.READY);
        Checks.dueArea("after " + op, x, StackCacher.STACK, "[" + after + "]");
    }

    private static void arithmetic() {
        everyPair(StackCacher.ADD, (x, y) -> x + y);
        everyPair(StackCacher.SUB, (x, y) -> x - y);
        everyPair(StackCacher.MUL, (x, y) -> x * y);
        for (int x : Checks.ANY_INT) {
            for (int arg : Checks.ANY_INT) {
                gives(StackCacher.ADDI, arg, items(x), (int) ((long) x + arg));
            }
        }
        gives(StackCacher.ADDI, 1, items(2147483647), -2147483648);
        gives(StackCacher.ADDI, -1, items(-2147483648), 2147483647);
        gives(StackCacher.ADD, 0, items(2147483647, 2147483647), -2);
        gives(StackCacher.SUB, 0, items(0, -2147483648), -2147483648);
        gives(StackCacher.SUB, 0, items(-2147483648, 1), 2147483647);
        gives(StackCacher.MUL, 0, items(-2147483648, -1), -2147483648);
        gives(StackCacher.MUL, 0, items(2147483647, 2147483647), 1);
        gives(StackCacher.MUL, 0, items(65536, 65536), 0);
    }

    private static void exclusiveOr() {
        everyPair(StackCacher.XOR, (x, y) -> (x | y) - (x & y));
        gives(StackCacher.XOR, 0, items(-2147483648, 2147483647), -1);
        gives(StackCacher.XOR, 0, items(-1, -1), 0);
        gives(StackCacher.XOR, 0, items(-1, 0), -1);
    }

    private static void signedLess() {
        everyPair(StackCacher.LESS, (x, y) -> x < y ? 1 : 0);
        gives(StackCacher.LESS, 0, items(-2147483648, 2147483647), 1);
        gives(StackCacher.LESS, 0, items(2147483647, -2147483648), 0);
        gives(StackCacher.LESS, 0, items(-1, 0), 1);
        gives(StackCacher.LESS, 0, items(0, -1), 0);
        gives(StackCacher.LESS, 0, items(5, 5), 0);
    }

    private static void theNextInstruction() {
        for (int op = StackCacher.PUSH; op <= StackCacher.OUT; op++) {
            StackCacher x = before(op, 2, 1, 11, 12, 13);
            Checks.due("run(1) of " + op, x.run(1), StackCacher.READY);
            Checks.due("pc() after " + op, x.pc(), 8);
        }
        // Up to the last but one of a full program.
        for (int op = StackCacher.PUSH; op <= StackCacher.OUT; op++) {
            StackCacher x = Checks.largest();
            x.feed(9);
            for (int at = 0; at < 22; at++) {
                Checks.load(x, StackCacher.PUSH, at);
            }
            Checks.loadAndCompile(x, op, 2, StackCacher.JUMP, 0);
            Checks.due("run(23)", x.run(23), StackCacher.READY);
            Checks.due("pc() after " + op + " at 22", x.pc(), 23);
        }
    }

    private static void queuesAndReturns() {
        for (int op = 0; op <= 20; op++) {
            StackCacher x = before(op, 2, 1, 11, 12, 13);
            x.run(1);
            Checks.dueArea("after " + op, x, StackCacher.INPUT, op == StackCacher.IN ? "[51]" : "[50 51]");
            Checks.dueArea("after " + op, x, StackCacher.OUTPUT, op == StackCacher.OUT ? "[60 13]" : "[60]");
            String returns = op == StackCacher.CALL ? "[8 3]" : op == StackCacher.RET ? "[]" : "[3]";
            Checks.dueArea("after " + op, x, StackCacher.RETURNS, returns);
        }
    }
}
