/** Promise 2: emit appends, keeps any operand, and refuses by status, opcode and size. */
final class Promise02EmitTest {
    private static final int[] WRONG_OPS = {Checks.LOW, Checks.LOW + 1, -65536, -256, -32, -20, -2, -1, 21, 22, 31, 32,
        33, 64, 255, 256, 257, 65536, 65537, Checks.HIGH - 1, Checks.HIGH};

    public static void main(String[] args) {
        Checks.sentence("the status is not `EDITING`",
            () -> Checks.refusedUnlessEditing("emit(1, 2)", x -> x.emit(StackCacher.PUSH, 2)));
        Checks.sentence("op is below 0 or above 20", Promise02EmitTest::wrongOpcodes);
        Checks.sentence("the program already holds programCells instructions", Promise02EmitTest::fullProgram);
        Checks.sentence("answers `REFUSED` and changes nothing if any of these holds",
            Promise02EmitTest::severalReasons);
        Checks.sentence("Otherwise it appends the instruction (op, arg) at the end of the program and answers the "
            + "index of the new instruction (0 for the first).", Promise02EmitTest::appends);
        Checks.sentence("arg may be any int and is kept as given whatever op is, even if the instruction ignores its "
            + "operand or the operand is no valid target.", Promise02EmitTest::anyOperand);
        Checks.sentence("Nothing else changes.", Promise02EmitTest::nothingElse);
        Checks.finish();
    }

    private static void wrongOpcodes() {
        for (int op : WRONG_OPS) {
            Checks.noEffect("emit(" + op + ", 0)", () -> Prepared.inStatus(StackCacher.EDITING), x -> x.emit(op, 0),
                StackCacher.REFUSED);
            Checks.noEffect("emit(" + op + ", 0) at the start", Checks::largest, x -> x.emit(op, 0),
                StackCacher.REFUSED);
        }
    }

    private static StackCacher full(int cells) {
        StackCacher x = new StackCacher(cells, 4, 1, 1);
        for (int at = 0; at < cells; at++) {
            Checks.due("emit number " + at + " of " + cells, x.emit(StackCacher.ADDI, at * 10), at);
        }
        return x;
    }

    private static void fullProgram() {
        for (int cells = 8; cells <= 24; cells++) {
            int size = cells;
            for (int op : new int[] {StackCacher.HALT, StackCacher.PUSH, StackCacher.RET}) {
                Checks.noEffect("emit(" + op + ", 1) to " + cells + " instructions", () -> full(size),
                    x -> x.emit(op, 1), StackCacher.REFUSED);
            }
            StackCacher x = full(cells);
            x.erase();
            Checks.due("emit once there is room again", x.emit(StackCacher.HALT, 1), cells - 1);
            Checks.due("emit when full again", x.emit(StackCacher.HALT, 1), StackCacher.REFUSED);
        }
    }

    private static void severalReasons() {
        for (int op : WRONG_OPS) {
            Checks.noEffect("emit(" + op + ", 1) to a full program", () -> full(8), x -> x.emit(op, 1),
                StackCacher.REFUSED);
            Checks.noEffect("emit(" + op + ", 1) when halted", () -> Prepared.inStatus(StackCacher.HALTED),
                x -> x.emit(op, 1), StackCacher.REFUSED);
            Checks.noEffect("emit(" + op + ", 1) to a full and compiled program", Prepared::smallestFull,
                x -> x.emit(op, 1), StackCacher.REFUSED);
        }
        Checks.noEffect("emit(0, 1) to a full and compiled program", Prepared::largestFull, x -> x.emit(0, 1),
            StackCacher.REFUSED);
    }

    private static void appends() {
        StackCacher x = Checks.largest();
        StringBuilder ops = new StringBuilder();
        for (int op = 0; op <= 20; op++) {
            Checks.due("emit(" + op + ", " + -op + ")", x.emit(op, -op), op);
            ops.append(op == 0 ? "" : " ").append(op);
            Checks.dueArea("after emit(" + op + ")", x, StackCacher.OPS, "[" + ops + "]");
            Checks.due("count(ARGS)", x.count(StackCacher.ARGS), op + 1);
        }
        x.clear();
        Checks.due("emit after clear", x.emit(StackCacher.DUP, 0), 0);
        Checks.due("emit after that", x.emit(StackCacher.DROP, 0), 1);
        x.erase();
        Checks.due("emit after erase", x.emit(StackCacher.SWAP, 0), 1);
        Checks.dueArea("at last", x, StackCacher.OPS, "[2 4]");
    }

    private static void anyOperand() {
        for (int op = 0; op <= 20; op++) {
            for (int arg : Checks.ANY_INT) {
                StackCacher x = Checks.largest();
                Checks.due("emit(" + op + ", " + arg + ")", x.emit(op, arg), 0);
                Checks.due("emit(" + op + ", " + ~arg + ")", x.emit(op, ~arg), 1);
                Checks.dueArea("after them", x, StackCacher.OPS, "[" + op + " " + op + "]");
                Checks.dueArea("after them", x, StackCacher.ARGS, "[" + arg + " " + ~arg + "]");
            }
        }
    }

    private static void nothingElse() {
        for (int op = 0; op <= 20; op++) {
            StackCacher x = Prepared.inStatus(StackCacher.EDITING);
            String[] want = Prepared.parts(StackCacher.EDITING);
            want[StackCacher.OPS] = want[StackCacher.OPS].replace("]", " " + op + "]");
            want[StackCacher.ARGS] = want[StackCacher.ARGS].replace("]", " 99]");
            Checks.due("emit(" + op + ", 99)", x.emit(op, 99), 7);
            Checks.dueParts("after emit(" + op + ", 99)", x, want);
        }
    }
}
