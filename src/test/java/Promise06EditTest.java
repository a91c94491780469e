/** Promise 6: edit goes back to editing and keeps program, input and output. */
final class Promise06EditTest {
    public static void main(String[] args) {
        StackCacher editing = Checks.inStatus(StackCacher.EDITING);
        String before = Checks.state(editing);
        Checks.due("edit() while editing", editing.edit(), StackCacher.REFUSED);
        Checks.dueText("state while editing", Checks.state(editing), before);
        for (int status = 1; status <= 6; status++) {
            StackCacher x = Checks.inStatus(status);
            String kept = keptAreas(x);
            Checks.due("edit() in status " + status, x.edit(), StackCacher.EDITING);
            Checks.dueText("state after edit() in status " + status, Checks.state(x),
                "status 0 pc 0 [] []" + kept);
            Checks.due("edit() again", x.edit(), StackCacher.REFUSED);
            Checks.due("compile() again", x.compile(), StackCacher.READY);
            Checks.dueText("state when compiled again", Checks.state(x), "status 1 pc 0 [] []" + kept);
        }
        whileWaiting();
        Checks.finish();
    }

    private static String keptAreas(StackCacher x) {
        StringBuilder text = new StringBuilder();
        for (int area = StackCacher.INPUT; area <= StackCacher.ARGS; area++) {
            text.append(" ").append(Checks.area(x, area));
        }
        return text.toString();
    }

    private static void whileWaiting() {
        StackCacher x = Checks.largest();
        Checks.loadAndCompile(x, StackCacher.PUSH, 3, StackCacher.IN, 0, StackCacher.HALT, 0);
        Checks.due("run(9)", x.run(9), StackCacher.WAIT_IN);
        Checks.due("edit()", x.edit(), StackCacher.EDITING);
        x.compile();
        x.run(1);
        Checks.dueText("the run begins anew", Checks.state(x), "status 1 pc 1 [3] [] [] [] [1 15 0] [3 0 0]");
    }
}
