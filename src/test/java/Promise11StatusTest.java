/** Promise 11: status tells all seven statuses, and READY while the program waits. */
final class Promise11StatusTest {
    public static void main(String[] args) {
        Checks.sentence("`status()` answers the status, 0 to 6.", Promise11StatusTest::theStatus);
        Checks.sentence("It works in any status and changes nothing.", Promise11StatusTest::changesNothing);
        Checks.sentence("After a call of `run` that answered `WAIT_IN` or `WAIT_OUT` the status is `READY`.",
            Promise11StatusTest::afterAWait);
        Checks.finish();
    }

    private static void theStatus() {
        Checks.due("status() at the start", Checks.largest().status(), 0);
        for (int status = 0; status <= 6; status++) {
            Checks.due("status()", Prepared.inStatus(status).status(), status);
        }
        StackCacher x = Checks.smallest();
        Checks.due("compile() of nothing", x.compile(), StackCacher.EMPTY);
        Checks.due("status() after EMPTY", x.status(), 0);
        Checks.load(x, StackCacher.PUSH, 1);
        Checks.due("compile()", x.compile(), StackCacher.BAD_END);
        Checks.due("status() after BAD_END", x.status(), 0);
        Checks.load(x, StackCacher.JUMP, 2);
        Checks.due("compile()", x.compile(), StackCacher.BAD_TARGET);
        Checks.due("status() after BAD_TARGET", x.status(), 0);
        x.patch(1, 0);
        Checks.due("compile()", x.compile(), StackCacher.READY);
        Checks.due("status() after compile", x.status(), 1);
        Checks.due("run(7)", x.run(7), StackCacher.READY);
        Checks.due("status() after READY", x.status(), 1);
        Checks.due("run(256)", x.run(256), StackCacher.OVERFLOW);
        Checks.due("status() after OVERFLOW", x.status(), 4);
        Checks.due("edit()", x.edit(), StackCacher.EDITING);
        Checks.due("status() after edit", x.status(), 0);
        x.compile();
        x.clear();
        Checks.due("status() after clear", x.status(), 0);
    }

    private static void changesNothing() {
        Checks.noEffect("status() at the start", Checks::largest, StackCacher::status, 0);
        for (int status = 0; status <= 6; status++) {
            int wanted = status;
            Checks.noEffect("status()", () -> Prepared.inStatus(wanted), StackCacher::status, status);
        }
        Checks.noEffect("status() with everything full", Prepared::largestFull, StackCacher::status, 1);
    }

    private static void afterAWait() {
        StackCacher in = Prepared.waitingForInput();
        Checks.due("status() after WAIT_IN", in.status(), StackCacher.READY);
        Checks.due("run(1)", in.run(1), StackCacher.WAIT_IN);
        Checks.due("status() after WAIT_IN at once", in.status(), StackCacher.READY);
        StackCacher out = Prepared.waitingForOutput();
        Checks.due("status() after WAIT_OUT", out.status(), StackCacher.READY);
        Checks.due("run(1)", out.run(1), StackCacher.WAIT_OUT);
        Checks.due("status() after WAIT_OUT at once", out.status(), StackCacher.READY);
    }
}
