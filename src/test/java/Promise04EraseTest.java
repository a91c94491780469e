/** Promise 4: erase removes the last instruction. */
final class Promise04EraseTest {
    public static void main(String[] args) {
        lastGoesFirst();
        onlyEditingErases();
        Checks.finish();
    }

    private static void lastGoesFirst() {
        StackCacher x = Checks.largest();
        x.feed(6);
        Checks.due("erase() of an empty program", x.erase(), StackCacher.REFUSED);
        Checks.load(x, StackCacher.PUSH, 11, StackCacher.DUP, 22, StackCacher.HALT, 33);
        Checks.due("erase()", x.erase(), 2);
        Checks.dueText("two left", Checks.state(x), "status 0 pc 0 [] [] [6] [] [1 2] [11 22]");
        Checks.due("erase()", x.erase(), 1);
        Checks.due("erase()", x.erase(), 0);
        Checks.dueText("none left", Checks.state(x), "status 0 pc 0 [] [] [6] [] [] []");
        Checks.due("erase() of an emptied program", x.erase(), StackCacher.REFUSED);
        Checks.dueText("still none", Checks.state(x), "status 0 pc 0 [] [] [6] [] [] []");
        Checks.due("emit after all", x.emit(StackCacher.RET, 5), 0);
        Checks.dueText("one again", Checks.state(x), "status 0 pc 0 [] [] [6] [] [20] [5]");
    }

    private static void onlyEditingErases() {
        for (int status = 0; status <= 6; status++) {
            StackCacher x = Checks.inStatus(status);
            String before = Checks.state(x);
            Checks.due("erase in status " + status, x.erase(), status == 0 ? 4 : StackCacher.REFUSED);
            if (status != 0) {
                Checks.dueText("state in status " + status, Checks.state(x), before);
            }
        }
    }
}
