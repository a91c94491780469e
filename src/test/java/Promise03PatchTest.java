/** Promise 3: patch sets one operand and nothing else. */
final class Promise03PatchTest {
    public static void main(String[] args) {
        anyOperandIsSet();
        wrongIndicesAreRefused();
        onlyEditingPatches();
        aPatchedOperandIsTheOneExecuted();
        Checks.finish();
    }

    private static void anyOperandIsSet() {
        StackCacher x = Checks.largest();
        x.feed(9);
        Checks.load(x, StackCacher.PUSH, 1, StackCacher.JZ, 2, StackCacher.HALT, 3);
        Checks.due("patch(0, LOW)", x.patch(0, Checks.LOW), 0);
        Checks.due("patch(1, -1)", x.patch(1, -1), 1);
        Checks.due("patch(2, HIGH)", x.patch(2, Checks.HIGH), 2);
        Checks.dueText("state after patches", Checks.state(x),
            "status 0 pc 0 [] [] [9] [] [1 18 0] [-2147483648 -1 2147483647]");
        Checks.due("patch(1, 0)", x.patch(1, 0), 1);
        Checks.dueArea("after patch(1, 0)", x, StackCacher.ARGS, "[-2147483648 0 2147483647]");
    }

    private static void wrongIndicesAreRefused() {
        StackCacher x = Checks.largest();
        Checks.due("patch(0, 1) of an empty program", x.patch(0, 1), StackCacher.REFUSED);
        Checks.load(x, StackCacher.PUSH, 1, StackCacher.HALT, 3);
        String before = Checks.state(x);
        for (int at : new int[] {Checks.LOW, -1, 2, 3, 23, 24, 25, Checks.HIGH}) {
            Checks.due("patch(" + at + ", 7)", x.patch(at, 7), StackCacher.REFUSED);
            Checks.dueText("state after patch(" + at + ", 7)", Checks.state(x), before);
        }
        x.erase();
        Checks.due("patch of an erased instruction", x.patch(1, 7), StackCacher.REFUSED);
        x.erase();
        Checks.due("patch of an emptied program", x.patch(0, 7), StackCacher.REFUSED);
    }

    private static void onlyEditingPatches() {
        for (int status = 0; status <= 6; status++) {
            StackCacher x = Checks.inStatus(status);
            String before = Checks.state(x);
            Checks.due("patch in status " + status, x.patch(0, 44), status == 0 ? 0 : StackCacher.REFUSED);
            if (status != 0) {
                Checks.dueText("state in status " + status, Checks.state(x), before);
            }
        }
    }

    private static void aPatchedOperandIsTheOneExecuted() {
        StackCacher x = Checks.largest();
        Checks.loadAndCompile(x, StackCacher.PUSH, 1, StackCacher.HALT, 0);
        x.run(256);
        x.edit();
        x.patch(0, 12);
        x.compile();
        x.run(256);
        Checks.dueArea("after the patched run", x, StackCacher.STACK, "[12]");
    }
}
