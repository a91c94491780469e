/** Promise 7: clear makes any object as it was at the start, with the same sizes. */
final class Promise07ClearTest {
    private static final String START = "status 0 pc 0 [] [] [] [] [] []";

    public static void main(String[] args) {
        Checks.sentence("`clear()` works in any status.", Promise07ClearTest::anyStatus);
        Checks.sentence("It brings the object back to the state the constructor made: status `EDITING`; program, "
            + "stack, returns, input and output empty; pc 0.", Promise07ClearTest::asTheConstructorMade);
        Checks.sentence("The clamped sizes stay the same.", Promise07ClearTest::sizesStay);
        Checks.finish();
    }

    private static void clears(String when, StackCacher x) {
        x.clear();
        Checks.dueText("after clear() " + when, Checks.state(x), START);
        x.clear();
        Checks.dueText("after clear() once more " + when, Checks.state(x), START);
    }

    private static void anyStatus() {
        for (int status = StackCacher.EDITING; status <= StackCacher.RETURNS_FULL; status++) {
            clears("in status " + status, Prepared.inStatus(status));
        }
        clears("while waiting for input", Prepared.waitingForInput());
        clears("while waiting for output", Prepared.waitingForOutput());
        clears("at the start", Checks.largest());
    }

    private static void asTheConstructorMade() {
        for (int status = StackCacher.EDITING; status <= StackCacher.RETURNS_FULL; status++) {
            StackCacher x = Prepared.inStatus(status);
            x.clear();
            Checks.dueText("later answers", Checks.later(x), Checks.later(new StackCacher(24, 4, 2, 3)));
        }
        StackCacher x = Prepared.largestFull();
        clears("with every area full", x);
        for (int area = 0; area <= 5; area++) {
            for (int i = 0; i < 32; i++) {
                Checks.due("view(" + area + ", " + i + ") after clear()", x.view(area, i), 0);
            }
        }
        Checks.due("run(1) after clear()", x.run(1), StackCacher.REFUSED);
        Checks.due("take() after clear()", x.take(), 0);
        Checks.due("erase() after clear()", x.erase(), StackCacher.REFUSED);
        Checks.due("patch(0, 1) after clear()", x.patch(0, 1), StackCacher.REFUSED);
        Checks.due("compile() after clear()", x.compile(), StackCacher.EMPTY);
        Checks.due("edit() after clear()", x.edit(), StackCacher.REFUSED);
        Checks.due("feed(1) after clear()", x.feed(1), 1);
        Checks.due("emit after clear()", x.emit(StackCacher.RET, 3), 0);
        StackCacher y = Prepared.smallestFull();
        clears("with every area of the smallest full", y);
        Checks.dueText("later answers of the smallest", Checks.later(y), Checks.later(Checks.smallest()));
    }

    private static void sizesStay() {
        int[][] given = {{8, 4, 1, 1}, {24, 32, 8, 8}, {9, 5, 2, 3}, {23, 31, 7, 6}};
        for (int[] sizes : given) {
            StackCacher x = new StackCacher(sizes[0], sizes[1], sizes[2], sizes[3]);
            Checks.loadAndCompile(x, StackCacher.PUSH, 1, StackCacher.HALT, 0);
            x.run(256);
            x.clear();
            Checks.dueText("sizes after clear()", Sizes.of(x),
                sizes[0] + " " + sizes[1] + " " + sizes[2] + " " + sizes[3] + " " + sizes[3]);
        }
    }
}
