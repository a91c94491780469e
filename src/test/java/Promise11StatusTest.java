/** Promise 11: status tells all seven statuses, and READY while the program waits. */
final class Promise11StatusTest {
    public static void main(String[] args) {
        Checks.due("status() at the start", Checks.largest().status(), StackCacher.EDITING);
        for (int status = 0; status <= 6; status++) {
            StackCacher x = Checks.inStatus(status);
            String before = Checks.state(x);
            Checks.due("status()", x.status(), status);
            Checks.due("status() again", x.status(), status);
            Checks.dueText("state after status()", Checks.state(x), before);
        }
        StackCacher x = Checks.smallest();
        Checks.loadAndCompile(x, StackCacher.IN, 0, StackCacher.OUT, 0, StackCacher.JUMP, 0);
        Checks.due("status() after compile", x.status(), StackCacher.READY);
        Checks.due("run(1)", x.run(1), StackCacher.WAIT_IN);
        Checks.due("status() after WAIT_IN", x.status(), StackCacher.READY);
        x.feed(1);
        x.run(256);
        x.feed(2);
        Checks.due("run(256)", x.run(256), StackCacher.WAIT_OUT);
        Checks.due("status() after WAIT_OUT", x.status(), StackCacher.READY);
        x.edit();
        Checks.due("status() after edit", x.status(), StackCacher.EDITING);
        x.erase();
        Checks.due("compile()", x.compile(), StackCacher.BAD_END);
        Checks.due("status() after BAD_END", x.status(), StackCacher.EDITING);
        Checks.finish();
    }
}
