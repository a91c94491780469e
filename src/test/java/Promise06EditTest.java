/** Promise 6: edit goes back to editing and keeps program, input and output. */
final class Promise06EditTest {
    public static void main(String[] args) {
        Checks.sentence("answers `REFUSED` and changes nothing if the status is `EDITING`",
            Promise06EditTest::refusedWhileEditing);
        Checks.sentence("In every other status (`READY`, `HALTED` or any fault) the status becomes `EDITING`, stack "
            + "and returns become empty, and pc becomes 0; program, input and output stay as they are; the answer is "
            + "`EDITING`.", Promise06EditTest::everyOtherStatus);
        Checks.sentence("stack and returns become empty", Promise06EditTest::fullStackAndReturns);
        Checks.sentence("pc becomes 0", Promise06EditTest::theNextRunBeginsAnew);
        Checks.finish();
    }

    private static void refusedWhileEditing() {
        Checks.noEffect("edit() at the start", Checks::largest, StackCacher::edit, StackCacher.REFUSED);
        Checks.noEffect("edit() with a program and queues", () -> Prepared.inStatus(StackCacher.EDITING),
            StackCacher::edit, StackCacher.REFUSED);
        Checks.noEffect("edit() after clear", () -> {
            StackCacher x = Prepared.inStatus(StackCacher.HALTED);
            x.clear();
            return x;
        }, StackCacher::edit, StackCacher.REFUSED);
        Checks.noEffect("edit() after a compile that answered BAD_END", () -> {
            StackCacher x = Checks.largest();
            Checks.load(x, StackCacher.DUP, 0);
            x.compile();
            return x;
        }, StackCacher::edit, StackCacher.REFUSED);
    }

    private static void goesBack(String when, StackCacher x) {
        goesBack(when, x, Checks.parts(x));
    }

    private static void goesBack(String when, StackCacher x, String[] want) {
        want[Checks.STATUS] = "status 0";
        want[Checks.PC] = "pc 0";
        want[StackCacher.STACK] = "[]";
        want[StackCacher.RETURNS] = "[]";
        Checks.due("edit() " + when, x.edit(), StackCacher.EDITING);
        Checks.dueParts("after edit() " + when, x, want);
        Checks.due("edit() again " + when, x.edit(), StackCacher.REFUSED);
        want[Checks.STATUS] = "status 1";
        Checks.due("compile() after edit() " + when, x.compile(), StackCacher.READY);
        Checks.dueParts("compiled again " + when, x, want);
    }

    private static void everyOtherStatus() {
        for (int status = StackCacher.READY; status <= StackCacher.RETURNS_FULL; status++) {
            goesBack("in status " + status, Prepared.inStatus(status), Prepared.parts(status));
        }
        goesBack("while waiting for input", Prepared.waitingForInput());
        goesBack("while waiting for output", Prepared.waitingForOutput());
        StackCacher compiled = Prepared.inStatus(StackCacher.EDITING);
        compiled.compile();
        goesBack("when just compiled", compiled);
    }

    private static void fullStackAndReturns() {
        goesBack("with every area of the smallest full", Prepared.smallestFull());
        goesBack("with every area of the largest full", Prepared.largestFull());
        StackCacher x = Prepared.largestFull();
        x.edit();
        for (int i = 0; i < 32; i++) {
            Checks.due("view(STACK, " + i + ")", x.view(StackCacher.STACK, i), 0);
            Checks.due("view(RETURNS, " + i + ")", x.view(StackCacher.RETURNS, i), 0);
        }
        x.compile();
        Checks.dueArea("when compiled again", x, StackCacher.STACK, "[]");
        Checks.dueArea("when compiled again", x, StackCacher.RETURNS, "[]");
    }

    private static void theNextRunBeginsAnew() {
        StackCacher x = Checks.largest();
        Checks.loadAndCompile(x, StackCacher.PUSH, 3, StackCacher.IN, 0, StackCacher.HALT, 0);
        Checks.due("run(9)", x.run(9), StackCacher.WAIT_IN);
        Checks.due("edit()", x.edit(), StackCacher.EDITING);
        Checks.due("pc() after edit()", x.pc(), 0);
        x.compile();
        x.run(1);
        Checks.dueText("the run begins anew", Checks.state(x), "status 1 pc 1 [3] [] [] [] [1 15 0] [3 0 0]");
    }
}
