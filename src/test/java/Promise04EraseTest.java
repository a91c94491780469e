/** Promise 4: erase removes the last instruction. */
final class Promise04EraseTest {
    public static void main(String[] args) {
        Checks.sentence("answers `REFUSED` and changes nothing if the status is not `EDITING`",
            () -> Checks.refusedUnlessEditing("erase()", StackCacher::erase));
        Checks.sentence("or the program is empty", Promise04EraseTest::emptyProgram);
        Checks.sentence("Otherwise it removes the last instruction and answers the number of instructions left",
            Promise04EraseTest::removesTheLast);
        Checks.sentence("which is 0 if the only instruction was removed", Promise04EraseTest::theOnlyOne);
        Checks.sentence("The remaining instructions, their operands and everything else stay unchanged.",
            Promise04EraseTest::nothingElse);
        Checks.finish();
    }

    private static StackCacher emptied() {
        StackCacher x = Prepared.inStatus(StackCacher.EDITING);
        for (int left = 6; left >= 0; left--) {
            Checks.due("erase()", x.erase(), left);
        }
        return x;
    }

    private static StackCacher cleared() {
        StackCacher x = Prepared.inStatus(StackCacher.EDITING);
        x.clear();
        return x;
    }

    private static void emptyProgram() {
        Checks.noEffect("erase() at the start", Checks::largest, StackCacher::erase, StackCacher.REFUSED);
        Checks.noEffect("erase() with all erased", Promise04EraseTest::emptied, StackCacher::erase,
            StackCacher.REFUSED);
        Checks.noEffect("erase() after clear", Promise04EraseTest::cleared, StackCacher::erase, StackCacher.REFUSED);
        StackCacher x = emptied();
        x.erase();
        Checks.due("emit after a refused erase", x.emit(StackCacher.RET, 5), 0);
    }

    private static void removesTheLast() {
        for (int cells = 8; cells <= 24; cells++) {
            StackCacher x = new StackCacher(cells, 4, 1, 1);
            for (int at = 0; at < cells; at++) {
                Checks.load(x, at % 21, at);
            }
            for (int left = cells - 1; left >= 0; left--) {
                Checks.due("erase() of " + (left + 1), x.erase(), left);
                Checks.due("count(OPS)", x.count(StackCacher.OPS), left);
                Checks.due("count(ARGS)", x.count(StackCacher.ARGS), left);
                Checks.due("the last opcode left", x.view(StackCacher.OPS, left - 1), left == 0 ? 0 : (left - 1) % 21);
                Checks.due("the opcode erased", x.view(StackCacher.OPS, left), 0);
                Checks.due("the operand erased", x.view(StackCacher.ARGS, left), 0);
            }
        }
    }

    private static void theOnlyOne() {
        for (int op = 0; op <= 20; op++) {
            StackCacher x = Checks.largest();
            Checks.load(x, op, 7);
            Checks.due("erase() of the only instruction", x.erase(), 0);
            Checks.dueText("state after it", Checks.state(x), "status 0 pc 0 [] [] [] [] [] []");
        }
    }

    private static void nothingElse() {
        StackCacher x = Prepared.inStatus(StackCacher.EDITING);
        Checks.load(x, StackCacher.JZ, Checks.LOW, StackCacher.ADDI, Checks.HIGH);
        String[] want = Prepared.parts(StackCacher.EDITING);
        Checks.due("erase()", x.erase(), 8);
        want[StackCacher.OPS] = "[1 16 1 16 19 1 0 18]";
        want[StackCacher.ARGS] = "[5 0 0 0 5 6 0 " + Checks.LOW + "]";
        Checks.dueParts("after erase()", x, want);
        Checks.due("erase()", x.erase(), 7);
        Checks.due("erase()", x.erase(), 6);
        want[StackCacher.OPS] = "[1 16 1 16 19 1]";
        want[StackCacher.ARGS] = "[5 0 0 0 5 6]";
        Checks.dueParts("after three", x, want);
    }
}
