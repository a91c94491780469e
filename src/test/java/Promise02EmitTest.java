/** Promise 2: emit appends, keeps any operand, and refuses by status, opcode and size. */
final class Promise02EmitTest {
    public static void main(String[] args) {
        everyOpcodeIsTaken();
        wrongOpcodesAreRefused();
        aFullProgramRefuses();
        onlyEditingTakes();
        Checks.finish();
    }

    private static void everyOpcodeIsTaken() {
        StackCacher x = Checks.largest();
        int[] operands = {Checks.LOW, Checks.HIGH, -1, 0, 24};
        for (int op = 0; op <= 20; op++) {
            int arg = operands[op % operands.length];
            Checks.due("emit(" + op + ", " + arg + ")", x.emit(op, arg), op);
            Checks.due("count(OPS)", x.count(StackCacher.OPS), op + 1);
        }
        for (int op = 0; op <= 20; op++) {
            Checks.due("view(OPS, " + op + ")", x.view(StackCacher.OPS, op), op);
            Checks.due("view(ARGS, " + op + ")", x.view(StackCacher.ARGS, op), operands[op % operands.length]);
        }
    }

    private static void wrongOpcodesAreRefused() {
        StackCacher x = Checks.largest();
        x.feed(3);
        Checks.load(x, StackCacher.PUSH, 4);
        String before = Checks.state(x);
        for (int op : new int[] {Checks.LOW, -2, -1, 21, 22, Checks.HIGH}) {
            Checks.due("emit(" + op + ", 0)", x.emit(op, 0), StackCacher.REFUSED);
            Checks.dueText("state after emit(" + op + ", 0)", Checks.state(x), before);
        }
        Checks.due("emit after refusals", x.emit(StackCacher.HALT, 9), 1);
    }

    private static void aFullProgramRefuses() {
        StackCacher x = Checks.smallest();
        for (int at = 0; at < 8; at++) {
            Checks.due("emit number " + at, x.emit(StackCacher.ADDI, at * 10), at);
        }
        String before = Checks.state(x);
        Checks.due("emit into a full program", x.emit(StackCacher.HALT, 1), StackCacher.REFUSED);
        Checks.dueText("state of the full program", Checks.state(x), before);
        x.erase();
        Checks.due("emit after erase", x.emit(StackCacher.HALT, 1), 7);
    }

    private static void onlyEditingTakes() {
        for (int status = 0; status <= 6; status++) {
            StackCacher x = Checks.inStatus(status);
            String before = Checks.state(x);
            int answer = x.emit(StackCacher.HALT, 1);
            Checks.due("emit in status " + status, answer, status == 0 ? 5 : StackCacher.REFUSED);
            if (status != 0) {
                Checks.dueText("state in status " + status, Checks.state(x), before);
            }
        }
    }
}
