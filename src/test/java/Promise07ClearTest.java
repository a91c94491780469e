/** Promise 7: clear makes any object as it was at the start, with the same sizes. */
final class Promise07ClearTest {
    public static void main(String[] args) {
        for (int status = 0; status <= 6; status++) {
            StackCacher x = Checks.inStatus(status);
            x.clear();
            Checks.dueText("clear() in status " + status, Checks.state(x), "status 0 pc 0 [] [] [] [] [] []");
            Checks.due("take()", x.take(), 0);
            Checks.due("patch(0, 1)", x.patch(0, 1), StackCacher.REFUSED);
            Checks.due("compile()", x.compile(), StackCacher.EMPTY);
            Checks.due("feed(1)", x.feed(1), 1);
            Checks.due("feed(2)", x.feed(2), 2);
            Checks.due("feed(3)", x.feed(3), StackCacher.REFUSED);
            Checks.loadAndCompile(x, StackCacher.IN, 0, StackCacher.OUT, 0, StackCacher.JUMP, 0);
            Checks.due("run(256)", x.run(256), StackCacher.WAIT_IN);
            Checks.dueArea("after the run", x, StackCacher.OUTPUT, "[1 2]");
        }
        StackCacher fresh = Checks.largest();
        fresh.clear();
        Checks.dueText("clear() of a new object", Checks.state(fresh), "status 0 pc 0 [] [] [] [] [] []");
        Checks.finish();
    }
}
