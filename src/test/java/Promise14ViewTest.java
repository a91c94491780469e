/** Promise 14: view tells each entry of each area in its order, and 0 outside. */
final class Promise14ViewTest {
    private static final int[] OTHER_AREAS = {Checks.LOW, -6, -1, 6, 7, 8, 256, Checks.HIGH};

    public static void main(String[] args) {
        eachAreaInItsOrder();
        outsideIsZero();
        leftoversNeverShow();
        Checks.finish();
    }

    private static StackCacher filled() {
        StackCacher x = Checks.largest();
        for (int v : new int[] {31, 32, 33, 34, 35}) {
            x.feed(v);
        }
        Checks.loadAndCompile(x, StackCacher.IN, -7, StackCacher.OUT, 0, StackCacher.IN, 0, StackCacher.OUT, 0,
            StackCacher.PUSH, 21, StackCacher.PUSH, 22, StackCacher.PUSH, 0, StackCacher.CALL, 8,
            StackCacher.CALL, 9, StackCacher.HALT, Checks.HIGH);
        Checks.due("run(256)", x.run(256), StackCacher.HALTED);
        return x;
    }

    private static void eachAreaInItsOrder() {
        StackCacher x = filled();
        String before = Checks.state(x);
        Checks.due("view(STACK, 0)", x.view(StackCacher.STACK, 0), 0);
        Checks.due("view(STACK, 1)", x.view(StackCacher.STACK, 1), 22);
        Checks.due("view(STACK, 2)", x.view(StackCacher.STACK, 2), 21);
        Checks.due("view(RETURNS, 0)", x.view(StackCacher.RETURNS, 0), 9);
        Checks.due("view(RETURNS, 1)", x.view(StackCacher.RETURNS, 1), 8);
        Checks.due("view(INPUT, 0)", x.view(StackCacher.INPUT, 0), 33);
        Checks.due("view(INPUT, 2)", x.view(StackCacher.INPUT, 2), 35);
        Checks.due("view(OUTPUT, 0)", x.view(StackCacher.OUTPUT, 0), 31);
        Checks.due("view(OUTPUT, 1)", x.view(StackCacher.OUTPUT, 1), 32);
        Checks.due("view(OPS, 0)", x.view(StackCacher.OPS, 0), StackCacher.IN);
        Checks.due("view(OPS, 8)", x.view(StackCacher.OPS, 8), StackCacher.CALL);
        Checks.due("view(ARGS, 0)", x.view(StackCacher.ARGS, 0), -7);
        Checks.due("view(ARGS, 9)", x.view(StackCacher.ARGS, 9), Checks.HIGH);
        Checks.dueText("state after view", Checks.state(x), before);
    }

    private static void outsideIsZero() {
        StackCacher fresh = Checks.largest();
        StackCacher x = filled();
        String before = Checks.state(x);
        for (int area = 0; area <= 5; area++) {
            int count = x.count(area);
            for (int i : new int[] {Checks.LOW, -33, -1, count, count + 1, 8, 24, 32, Checks.HIGH}) {
                if (i < 0 || i >= count) {
                    Checks.due("view(" + area + ", " + i + ")", x.view(area, i), 0);
                }
                Checks.due("view(" + area + ", " + i + ") of a new object", fresh.view(area, i), 0);
            }
        }
        for (int area : OTHER_AREAS) {
            for (int i : new int[] {Checks.LOW, -1, 0, 1, 2, Checks.HIGH}) {
                Checks.due("view(" + area + ", " + i + ")", x.view(area, i), 0);
            }
        }
        Checks.dueText("state after view", Checks.state(x), before);
    }

    private static void leftoversNeverShow() {
        StackCacher x = filled();
        x.edit();
        for (int i = 0; i < 3; i++) {
            Checks.due("view(STACK, " + i + ") after edit", x.view(StackCacher.STACK, i), 0);
            Checks.due("view(RETURNS, " + i + ") after edit", x.view(StackCacher.RETURNS, i), 0);
        }
        x.erase();
        Checks.due("view(ARGS, 9) after erase", x.view(StackCacher.ARGS, 9), 0);
        x.take();
        Checks.due("view(OUTPUT, 1) after take", x.view(StackCacher.OUTPUT, 1), 0);
        Checks.due("view(OUTPUT, 0) after take", x.view(StackCacher.OUTPUT, 0), 32);
        x.clear();
        for (int area = 0; area <= 5; area++) {
            Checks.due("view(" + area + ", 0) after clear", x.view(area, 0), 0);
        }
    }
}
