import java.util.function.Supplier;

/** Promise 5: compile refuses by four reasons in their order, else makes the program ready. */
final class Promise05CompileTest {
    private static final int[] WITH_TARGET = {StackCacher.JUMP, StackCacher.JZ, StackCacher.CALL};

    public static void main(String[] args) {
        Checks.sentence("`REFUSED` if the status is not `EDITING`", Promise05CompileTest::refusedUnlessEditing);
        Checks.sentence("`EMPTY` if the program is empty", Promise05CompileTest::emptyProgram);
        Checks.sentence("`BAD_END` if the last opcode is none of `HALT`, `JUMP`, `RET`", Promise05CompileTest::badEnds);
        Checks.sentence("`BAD_TARGET` if any `JUMP`, `JZ` or `CALL`", Promise05CompileTest::anyOfTheThree);
        Checks.sentence("has an operand below 0", Promise05CompileTest::targetsBelowZero);
        Checks.sentence("or not below the number of instructions", Promise05CompileTest::targetsNotBelowTheNumber);
        Checks.sentence("whether it can be reached or not", Promise05CompileTest::unreachedTargets);
        Checks.sentence("considers the following in this order", Promise05CompileTest::reasonsInOrder);
        Checks.sentence("the first that holds gives the answer, and then nothing changes",
            Promise05CompileTest::nothingChanges);
        Checks.sentence("Otherwise the status becomes `READY`, with stack and returns empty and pc 0; program, input "
            + "and output stay as they are; the answer is `READY`.", Promise05CompileTest::becomesReady);
        Checks.sentence("Operands of other opcodes are never a reason for an answer other than `READY`.",
            Promise05CompileTest::otherOperands);
        Checks.finish();
    }

    private static void refuses(String what, Supplier<StackCacher> made, int want) {
        Checks.noEffect("compile() " + what, made, StackCacher::compile, want);
    }

    private static Supplier<StackCacher> program(int... pairs) {
        return () -> {
            StackCacher x = Checks.largest();
            Checks.load(x, pairs);
            return x;
        };
    }

    /** A program of HALTs but for the one instruction. */
    private static StackCacher oneAmongHalts(int length, int at, int op, int arg) {
        StackCacher x = Checks.largest();
        for (int k = 0; k < length; k++) {
            Checks.load(x, k == at ? op : StackCacher.HALT, k == at ? arg : 0);
        }
        return x;
    }

    private static boolean isEnd(int op) {
        return op == StackCacher.HALT || op == StackCacher.JUMP || op == StackCacher.RET;
    }

    private static void refusedUnlessEditing() {
        Checks.refusedUnlessEditing("compile()", StackCacher::compile);
        refuses("when just compiled", () -> {
            StackCacher x = Checks.largest();
            Checks.loadAndCompile(x, StackCacher.HALT, 0);
            return x;
        }, StackCacher.REFUSED);
    }

    private static void emptyProgram() {
        refuses("at the start", Checks::largest, StackCacher.EMPTY);
        refuses("at the start of the smallest", Checks::smallest, StackCacher.EMPTY);
        refuses("with all erased", () -> erasedAfter(StackCacher.HALT, 0), StackCacher.EMPTY);
        refuses("after clear", () -> {
            StackCacher x = Prepared.inStatus(StackCacher.HALTED);
            x.clear();
            return x;
        }, StackCacher.EMPTY);
    }

    private static StackCacher erasedAfter(int op, int arg) {
        StackCacher x = Checks.largest();
        x.feed(8);
        Checks.load(x, op, arg);
        x.erase();
        return x;
    }

    private static void badEnds() {
        for (int op = 0; op <= 20; op++) {
            int end = op;
            for (int length : new int[] {1, 2, 8, 23, 24}) {
                Supplier<StackCacher> made = () -> oneAmongHalts(length, length - 1, end, 0);
                if (isEnd(op)) {
                    Checks.due("compile() of " + length + " with end " + op, made.get().compile(), StackCacher.READY);
                } else {
                    refuses("of " + length + " with end " + op, made, StackCacher.BAD_END);
                }
            }
        }
        StackCacher x = Checks.largest();
        Checks.load(x, StackCacher.HALT, 0, StackCacher.DUP, 0);
        x.erase();
        Checks.due("compile() with a bad end erased", x.compile(), StackCacher.READY);
    }

    private static void anyOfTheThree() {
        for (int op : WITH_TARGET) {
            refuses("with a bad target of " + op + " first", program(op, 3, StackCacher.HALT, 0, StackCacher.HALT, 0),
                StackCacher.BAD_TARGET);
            refuses("with a bad target of " + op + " among good ones", program(StackCacher.CALL, 0, StackCacher.JZ, 1,
                op, -1, StackCacher.JUMP, 2), StackCacher.BAD_TARGET);
        }
        refuses("with a bad target of a JUMP at the end", program(StackCacher.CALL, 0, StackCacher.JUMP, 2),
            StackCacher.BAD_TARGET);
        Checks.due("compile() with all three good", program(StackCacher.CALL, 0, StackCacher.JZ, 2,
            StackCacher.JUMP, 1).get().compile(), StackCacher.READY);
    }

    private static void targetsBelowZero() {
        for (int op : WITH_TARGET) {
            for (int target : Checks.ANY_INT) {
                if (target < 0) {
                    refuses("with " + op + " to " + target, program(op, target, StackCacher.HALT, 0),
                        StackCacher.BAD_TARGET);
                }
            }
        }
        refuses("with a JUMP to -1 alone", program(StackCacher.JUMP, -1), StackCacher.BAD_TARGET);
    }

    private static void targetsNotBelowTheNumber() {
        for (int op : WITH_TARGET) {
            for (int length = 2; length <= 24; length++) {
                int bound = length;
                for (int target : new int[] {bound, bound + 1, 24, 32, 256, 65536, Checks.HIGH}) {
                    refuses("of " + length + " with " + op + " to " + target,
                        () -> oneAmongHalts(bound, 0, op, target), StackCacher.BAD_TARGET);
                }
                for (int target = 0; target < length; target++) {
                    StackCacher x = oneAmongHalts(length, 0, op, target);
                    Checks.due("compile() of " + length + " with " + op + " to " + target, x.compile(),
                        StackCacher.READY);
                }
            }
        }
        refuses("with a JUMP to 1 alone", program(StackCacher.JUMP, 1), StackCacher.BAD_TARGET);
        Checks.due("compile() with a JUMP to 0 alone", program(StackCacher.JUMP, 0).get().compile(), StackCacher.READY);
        refuses("with a target that was erased", () -> {
            StackCacher x = Checks.largest();
            Checks.load(x, StackCacher.JUMP, 1, StackCacher.HALT, 0);
            x.erase();
            return x;
        }, StackCacher.BAD_TARGET);
        StackCacher x = Checks.largest();
        Checks.load(x, StackCacher.HALT, 0, StackCacher.JUMP, -1);
        x.erase();
        Checks.due("compile() with a bad target erased", x.compile(), StackCacher.READY);
    }

    private static void unreachedTargets() {
        for (int op : WITH_TARGET) {
            for (int at = 1; at < 24; at++) {
                int place = at;
                // The HALT at index 0 keeps every other instruction from being reached.
                if (at < 23 || op == StackCacher.JUMP) {
                    refuses("with " + op + " to -1 at " + at, () -> oneAmongHalts(24, place, op, -1),
                        StackCacher.BAD_TARGET);
                    refuses("with " + op + " to 24 at " + at, () -> oneAmongHalts(24, place, op, 24),
                        StackCacher.BAD_TARGET);
                    Checks.due("compile() with " + op + " to 23 at " + at, oneAmongHalts(24, at, op, 23).compile(),
                        StackCacher.READY);
                }
            }
        }
    }

    private static void reasonsInOrder() {
        // What was erased must not count: an empty program has neither an end nor a target.
        refuses("of no instruction after a bad end", () -> erasedAfter(StackCacher.DUP, 0), StackCacher.EMPTY);
        refuses("of no instruction after a bad target", () -> erasedAfter(StackCacher.JUMP, -1), StackCacher.EMPTY);
        for (int op = 0; op <= 20; op++) {
            if (!isEnd(op)) {
                refuses("with a bad target before end " + op, program(StackCacher.JUMP, -1, op, 0),
                    StackCacher.BAD_END);
                refuses("with a bad operand in end " + op, program(StackCacher.HALT, 0, op, Checks.HIGH),
                    StackCacher.BAD_END);
            }
        }
        StackCacher x = Checks.largest();
        Checks.due("compile() of nothing", x.compile(), StackCacher.EMPTY);
        Checks.load(x, StackCacher.JUMP, -1, StackCacher.DUP, 0);
        Checks.due("compile() with a bad end and a bad target", x.compile(), StackCacher.BAD_END);
        x.erase();
        Checks.due("compile() with a bad target", x.compile(), StackCacher.BAD_TARGET);
        x.patch(0, 0);
        Checks.due("compile() once mended", x.compile(), StackCacher.READY);
        Checks.due("compile() once more", x.compile(), StackCacher.REFUSED);
    }

    private static StackCacher editingWith(int op, int arg) {
        StackCacher x = Prepared.inStatus(StackCacher.EDITING);
        Checks.load(x, op, arg);
        return x;
    }

    private static void nothingChanges() {
        refuses("with entries in the queues and a bad end", () -> editingWith(StackCacher.SWAP, 3),
            StackCacher.BAD_END);
        refuses("with entries in the queues and a bad target", () -> editingWith(StackCacher.JUMP, 8),
            StackCacher.BAD_TARGET);
        refuses("with entries in the queues and no program", () -> {
            StackCacher x = Prepared.inStatus(StackCacher.EDITING);
            while (x.count(StackCacher.OPS) > 0) {
                x.erase();
            }
            return x;
        }, StackCacher.EMPTY);
        refuses("with everything full", Prepared::largestFull, StackCacher.REFUSED);
        refuses("with everything full in the smallest", Prepared::smallestFull, StackCacher.REFUSED);
    }

    private static void becomesReady() {
        StackCacher x = Prepared.inStatus(StackCacher.EDITING);
        String[] want = Prepared.parts(StackCacher.EDITING);
        Checks.due("compile()", x.compile(), StackCacher.READY);
        want[Checks.STATUS] = "status 1";
        Checks.dueParts("after compile()", x, want);
        Checks.due("run(256)", x.run(256), StackCacher.WAIT_OUT);
        x.edit();
        Checks.due("compile() after a run", x.compile(), StackCacher.READY);
        Checks.dueText("state after it", Checks.state(x),
            "status 1 pc 0 [] [] [70 80] [5 0 5] [1 16 1 16 19 1 0] [5 0 0 0 5 6 0]");
        for (StackCacher full : new StackCacher[] {Prepared.smallestFull(), Prepared.largestFull()}) {
            full.edit();
            String[] kept = Checks.parts(full);
            kept[Checks.STATUS] = "status 1";
            Checks.due("compile() with a full program and full queues", full.compile(), StackCacher.READY);
            Checks.dueParts("after it", full, kept);
        }
    }

    private static void otherOperands() {
        for (int op = 0; op <= 20; op++) {
            if (op == StackCacher.JUMP || op == StackCacher.JZ || op == StackCacher.CALL) {
                continue;
            }
            for (int arg : Checks.ANY_INT) {
                StackCacher x = oneAmongHalts(2, isEnd(op) ? 1 : 0, op, arg);
                Checks.due("compile() with " + op + " and operand " + arg, x.compile(), StackCacher.READY);
            }
        }
    }
}
