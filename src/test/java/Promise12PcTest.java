/** Promise 12: pc tells the next instruction, the HALT that was executed, or the one at fault. */
final class Promise12PcTest {
    public static void main(String[] args) {
        Checks.sentence("`pc()` answers pc.", Promise12PcTest::followsTheProgram);
        Checks.sentence("It works in any status and changes nothing.", Promise12PcTest::changesNothing);
        Checks.sentence("While the status is `EDITING` the answer is 0", Promise12PcTest::whileEditing);
        Checks.sentence("in status `HALTED` it is the index of the `HALT` that was executed",
            Promise12PcTest::whenHalted);
        Checks.sentence("in a fault it is the index of the instruction at fault", Promise12PcTest::inAFault);
        Checks.finish();
    }

    private static void followsTheProgram() {
        StackCacher x = Checks.largest();
        Checks.loadAndCompile(x, StackCacher.CALL, 3, StackCacher.JUMP, 4, StackCacher.HALT, 0, StackCacher.RET, 0,
            StackCacher.PUSH, 0, StackCacher.JZ, 2, StackCacher.HALT, 0);
        for (int at : new int[] {0, 3, 1, 4, 5, 2, 2, 2}) {
            Checks.due("pc() on the way", x.pc(), at);
            x.run(1);
        }
        Checks.due("status() at the end", x.status(), StackCacher.HALTED);
        Checks.due("pc() while IN waits", Prepared.waitingForInput().pc(), 4);
        Checks.due("pc() while OUT waits", Prepared.waitingForOutput().pc(), 3);
    }

    private static void changesNothing() {
        Checks.noEffect("pc() at the start", Checks::largest, StackCacher::pc, 0);
        for (int status = 0; status <= 6; status++) {
            int wanted = status;
            Checks.noEffect("pc() in status " + status, () -> Prepared.inStatus(wanted), StackCacher::pc,
                status == 0 ? 0 : 6);
        }
        Checks.noEffect("pc() while IN waits", Prepared::waitingForInput, StackCacher::pc, 4);
        Checks.noEffect("pc() while OUT waits", Prepared::waitingForOutput, StackCacher::pc, 3);
    }

    private static void whileEditing() {
        StackCacher x = Checks.largest();
        Checks.due("pc() at the start", x.pc(), 0);
        Checks.load(x, StackCacher.PUSH, 1, StackCacher.PUSH, 2, StackCacher.HALT, 0);
        Checks.due("pc() after emit", x.pc(), 0);
        x.patch(2, 5);
        Checks.due("pc() after patch", x.pc(), 0);
        for (int status = StackCacher.READY; status <= StackCacher.RETURNS_FULL; status++) {
            StackCacher edited = Prepared.inStatus(status);
            edited.edit();
            Checks.due("pc() after edit in status " + status, edited.pc(), 0);
            edited.erase();
            Checks.due("pc() after erase", edited.pc(), 0);
            StackCacher cleared = Prepared.inStatus(status);
            cleared.clear();
            Checks.due("pc() after clear in status " + status, cleared.pc(), 0);
        }
    }

    private static void whenHalted() {
        for (int at = 0; at < 24; at++) {
            StackCacher x = Checks.largest();
            Checks.load(x, at == 0 ? StackCacher.HALT : StackCacher.JUMP, at);
            while (x.count(StackCacher.OPS) < 24) {
                Checks.load(x, StackCacher.HALT, 0);
            }
            Checks.due("compile()", x.compile(), StackCacher.READY);
            Checks.due("run(256)", x.run(256), StackCacher.HALTED);
            Checks.due("pc() at the HALT at " + at, x.pc(), at);
            Checks.due("run(256) once more", x.run(256), StackCacher.HALTED);
            Checks.due("pc() after that", x.pc(), at);
        }
    }

    private static void faultAt(int at, int op, int items, int fault) {
        StackCacher x = new StackCacher(24, 4, 1, 1);
        for (int k = 0; k < at; k++) {
            Checks.load(x, k < items ? StackCacher.PUSH : StackCacher.JUMP, k + 1);
        }
        Checks.loadAndCompile(x, op, at, StackCacher.HALT, 0);
        Checks.due("run(256) to " + op + " at " + at, x.run(256), fault);
        Checks.due("pc() at fault " + fault, x.pc(), at);
        Checks.due("run(256) once more", x.run(256), fault);
        Checks.due("pc() after that", x.pc(), at);
    }

    private static void inAFault() {
        for (int at = 0; at < 23; at++) {
            faultAt(at, StackCacher.DROP, 0, StackCacher.UNDERFLOW);
            faultAt(at, StackCacher.RET, 0, StackCacher.RETURNS_EMPTY);
            // It calls itself, and is at fault the second time.
            faultAt(at, StackCacher.CALL, 0, StackCacher.RETURNS_FULL);
            if (at >= 4) {
                faultAt(at, StackCacher.PUSH, 4, StackCacher.OVERFLOW);
            }
        }
    }
}
