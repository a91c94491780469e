/** Promise 3: patch sets one operand and nothing else. */
final class Promise03PatchTest {
    public static void main(String[] args) {
        Checks.sentence("answers `REFUSED` and changes nothing if the status is not `EDITING`",
            Promise03PatchTest::refusedUnlessEditing);
        Checks.sentence("or at is below 0", Promise03PatchTest::belowZero);
        Checks.sentence("or at is not below the number of instructions", Promise03PatchTest::notBelowTheNumber);
        Checks.sentence("(so always with an empty program)", Promise03PatchTest::emptyProgram);
        Checks.sentence("Otherwise the operand of the instruction at index at becomes arg, which may be any int, and "
            + "the answer is at.", Promise03PatchTest::anyOperandAtAnyIndex);
        Checks.sentence("The opcode there, all other instructions and everything else stay unchanged.",
            Promise03PatchTest::nothingElse);
        Checks.finish();
    }

    private static StackCacher editing() {
        return Prepared.inStatus(StackCacher.EDITING);
    }

    /** With instructions 0 to length - 1, whose opcode is op and whose operands are 100, 101 and so on. */
    private static StackCacher ofLength(int length, int op) {
        StackCacher x = Checks.largest();
        for (int at = 0; at < length; at++) {
            Checks.load(x, op, 100 + at);
        }
        return x;
    }

    private static void refusedUnlessEditing() {
        for (int at : new int[] {0, 3, 5}) {
            Checks.refusedUnlessEditing("patch(" + at + ", 44)", x -> x.patch(at, 44));
        }
    }

    private static void belowZero() {
        for (int at : Checks.ANY_INT) {
            if (at < 0) {
                Checks.noEffect("patch(" + at + ", 44)", Promise03PatchTest::editing, x -> x.patch(at, 44),
                    StackCacher.REFUSED);
            }
        }
    }

    private static void notBelowTheNumber() {
        for (int at : new int[] {7, 8, 9, 23, 24, 25, 31, 32, 256, 263, 65536, Checks.HIGH - 1, Checks.HIGH}) {
            Checks.noEffect("patch(" + at + ", 44) of 7 instructions", Promise03PatchTest::editing,
                x -> x.patch(at, 44), StackCacher.REFUSED);
        }
        for (int length = 1; length <= 24; length++) {
            int at = length;
            Checks.noEffect("patch(" + at + ", 44) of as many instructions", () -> ofLength(at, StackCacher.PUSH),
                x -> x.patch(at, 44), StackCacher.REFUSED);
            StackCacher x = ofLength(length, StackCacher.PUSH);
            Checks.due("patch of the last of " + length, x.patch(length - 1, 44), length - 1);
            x.erase();
            Checks.due("patch of an erased instruction", x.patch(length - 1, 44), StackCacher.REFUSED);
        }
    }

    private static StackCacher emptied() {
        StackCacher x = editing();
        while (x.count(StackCacher.OPS) > 0) {
            x.erase();
        }
        return x;
    }

    private static StackCacher cleared() {
        StackCacher x = editing();
        x.clear();
        return x;
    }

    private static void emptyProgram() {
        for (int at : Checks.ANY_INT) {
            Checks.noEffect("patch(" + at + ", 44) at the start", Checks::largest, x -> x.patch(at, 44),
                StackCacher.REFUSED);
            Checks.noEffect("patch(" + at + ", 44) with all erased", Promise03PatchTest::emptied,
                x -> x.patch(at, 44), StackCacher.REFUSED);
            Checks.noEffect("patch(" + at + ", 44) after clear", Promise03PatchTest::cleared, x -> x.patch(at, 44),
                StackCacher.REFUSED);
        }
    }

    private static void anyOperandAtAnyIndex() {
        for (int op = 0; op <= 20; op++) {
            for (int at = 0; at < 24; at++) {
                StackCacher x = ofLength(24, op);
                for (int arg : Checks.ANY_INT) {
                    Checks.due("patch(" + at + ", " + arg + ") of " + op, x.patch(at, arg), at);
                    Checks.due("view(ARGS, " + at + ")", x.view(StackCacher.ARGS, at), arg);
                }
            }
        }
        StackCacher x = Checks.largest();
        Checks.loadAndCompile(x, StackCacher.PUSH, 1, StackCacher.HALT, 0);
        x.run(256);
        x.edit();
        Checks.due("patch(0, 12) after edit", x.patch(0, 12), 0);
        x.compile();
        x.run(256);
        Checks.dueArea("after a run of what was patched", x, StackCacher.STACK, "[12]");
    }

    private static void nothingElse() {
        for (int at = 0; at < 7; at++) {
            StackCacher x = editing();
            String[] want = Prepared.parts(StackCacher.EDITING);
            int[] operands = {5, 0, 0, 0, 5, 6, 0};
            operands[at] = -3;
            want[StackCacher.ARGS] = java.util.Arrays.toString(operands).replace(",", "");
            Checks.due("patch(" + at + ", -3)", x.patch(at, -3), at);
            Checks.dueParts("after patch(" + at + ", -3)", x, want);
        }
    }
}
