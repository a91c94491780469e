/** Promise 5: compile refuses by four causes in their order, else makes the program ready. */
final class Promise05CompileTest {
    public static void main(String[] args) {
        onlyEditingCompiles();
        emptyProgram();
        endings();
        targets();
        causesInOrder();
        operandsWithoutTarget();
        erasedInstructionsDoNotCount();
        fullPrograms();
        Checks.finish();
    }

    private static void refuses(String what, StackCacher x, int want) {
        String before = Checks.state(x);
        Checks.due("compile() of " + what, x.compile(), want);
        Checks.dueText("state after compile() of " + what, Checks.state(x), before);
    }

    private static void onlyEditingCompiles() {
        for (int status = 1; status <= 6; status++) {
            refuses("status " + status, Checks.inStatus(status), StackCacher.REFUSED);
        }
        StackCacher x = Checks.inStatus(StackCacher.EDITING);
        Checks.due("compile()", x.compile(), StackCacher.READY);
        Checks.dueText("compiled", Checks.state(x), "status 1 pc 0 [] [] [70 80] [] [1 16 19 1 0] [5 0 3 6 0]");
    }

    private static void emptyProgram() {
        StackCacher x = Checks.largest();
        refuses("an empty program", x, StackCacher.EMPTY);
        Checks.load(x, StackCacher.HALT, 0);
        x.erase();
        refuses("an emptied program", x, StackCacher.EMPTY);
    }

    private static void endings() {
        for (int op = 0; op <= 20; op++) {
            boolean ends = op == StackCacher.HALT || op == StackCacher.JUMP || op == StackCacher.RET;
            StackCacher x = Checks.largest();
            Checks.load(x, StackCacher.HALT, 0, op, 0);
            if (ends) {
                Checks.due("compile() with end " + op, x.compile(), StackCacher.READY);
            } else {
                refuses("end " + op, x, StackCacher.BAD_END);
            }
        }
    }

    private static void targets() {
        int[] jumps = {StackCacher.JUMP, StackCacher.JZ, StackCacher.CALL};
        for (int op : jumps) {
            for (int target : new int[] {Checks.LOW, -1, 3, 4, 8, 24, Checks.HIGH}) {
                StackCacher x = Checks.largest();
                // Behind a HALT, so it can't be reached, and is refused all the same.
                Checks.load(x, StackCacher.HALT, 0, op, target, StackCacher.HALT, 0);
                refuses("target " + target + " of " + op, x, StackCacher.BAD_TARGET);
            }
            for (int target = 0; target < 3; target++) {
                StackCacher x = Checks.largest();
                Checks.load(x, op, target, StackCacher.HALT, 0, StackCacher.HALT, 0);
                Checks.due("compile() with target " + target, x.compile(), StackCacher.READY);
            }
        }
        StackCacher last = Checks.largest();
        Checks.load(last, StackCacher.HALT, 0, StackCacher.JUMP, 2);
        refuses("a bad target in the last instruction", last, StackCacher.BAD_TARGET);
        StackCacher shortened = Checks.largest();
        Checks.load(shortened, StackCacher.JUMP, 1, StackCacher.HALT, 0);
        shortened.erase();
        refuses("a target that was erased", shortened, StackCacher.BAD_TARGET);
    }

    private static void causesInOrder() {
        StackCacher x = Checks.largest();
        Checks.load(x, StackCacher.JUMP, -1, StackCacher.DUP, 0);
        refuses("a bad end and a bad target", x, StackCacher.BAD_END);
        x.erase();
        refuses("a bad target", x, StackCacher.BAD_TARGET);
        x.patch(0, 0);
        Checks.due("compile() once mended", x.compile(), StackCacher.READY);
    }

    private static void operandsWithoutTarget() {
        for (int arg : new int[] {Checks.LOW, -1, 24, Checks.HIGH}) {
            StackCacher x = Checks.largest();
            for (int op = 0; op <= 20; op++) {
                boolean hasTarget = op == StackCacher.JUMP || op == StackCacher.JZ || op == StackCacher.CALL;
                Checks.load(x, op, hasTarget ? 20 : arg);
            }
            Checks.due("compile() with operands " + arg, x.compile(), StackCacher.READY);
        }
    }

    private static void erasedInstructionsDoNotCount() {
        StackCacher x = Checks.largest();
        Checks.load(x, StackCacher.HALT, 0, StackCacher.JUMP, -1);
        x.erase();
        Checks.due("compile() with a bad target erased", x.compile(), StackCacher.READY);
    }

    private static void fullPrograms() {
        for (int cells : new int[] {8, 24}) {
            StackCacher x = new StackCacher(cells, 4, 1, 1);
            for (int at = 0; at < cells; at++) {
                Checks.load(x, StackCacher.JUMP, (at + 1) % cells);
            }
            Checks.due("compile() of " + cells + " instructions", x.compile(), StackCacher.READY);
            Checks.due("run to the last one", x.run(cells - 1), StackCacher.READY);
            Checks.due("pc()", x.pc(), cells - 1);
        }
    }
}
