/** Promise 12: pc tells the next instruction, the HALT that was executed, or the one at fault. */
final class Promise12PcTest {
    public static void main(String[] args) {
        int[] wanted = {0, 4, 4, 4, 4, 4, 5};
        for (int status = 0; status <= 6; status++) {
            StackCacher x = Checks.inStatus(status);
            String before = Checks.state(x);
            Checks.due("pc() in status " + status, x.pc(), wanted[status]);
            Checks.due("pc() again", x.pc(), wanted[status]);
            Checks.dueText("state after pc()", Checks.state(x), before);
        }
        followsTheProgram();
        Checks.finish();
    }

    private static void followsTheProgram() {
        StackCacher x = Checks.largest();
        Checks.due("pc() at the start", x.pc(), 0);
        Checks.load(x, StackCacher.CALL, 3, StackCacher.JUMP, 4, StackCacher.HALT, 0, StackCacher.RET, 0,
            StackCacher.PUSH, 0, StackCacher.JZ, 2, StackCacher.HALT, 0);
        Checks.due("pc() while editing", x.pc(), 0);
        x.compile();
        int[] path = {0, 3, 1, 4, 5, 2, 2, 2};
        for (int at : path) {
            Checks.due("pc() on the way", x.pc(), at);
            x.run(1);
        }
        Checks.due("status() at the end", x.status(), StackCacher.HALTED);
        x.edit();
        Checks.due("pc() after edit", x.pc(), 0);
    }
}
