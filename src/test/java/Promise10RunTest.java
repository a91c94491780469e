/** Promise 10, what run answers by status, by n and by the first outcome; the other Promise10 tests have the rest. */
final class Promise10RunTest {
    /** A loop of eight ADDI 1 and a JUMP back, entered at 1, tells by its top and pc how much was executed. */
    private static final int LOOP = 9;

    public static void main(String[] args) {
        Checks.sentence("`EDITING`: answers `REFUSED`; nothing changes.", Promise10RunTest::whileEditing);
        Checks.sentence("`HALTED` or one of the four faults: answers the status; nothing changes.",
            Promise10RunTest::whenEnded);
        Checks.sentence("n below 0 becomes 0", Promise10RunTest::belowZero);
        Checks.sentence("n above 256 becomes 256", Promise10RunTest::above256);
        Checks.sentence("then up to n instructions are executed one after the other", Promise10RunTest::upToN);
        Checks.sentence("The first outcome other than `READY` ends the call and is its answer.",
            Promise10RunTest::firstOutcomeEnds);
        Checks.sentence("If n instructions were executed all with outcome `READY` (also if n is 0), the answer is "
            + "`READY`.", Promise10RunTest::allReady);
        Checks.sentence("With n 0 nothing changes.", Promise10RunTest::zero);
        Checks.sentence("`run` never changes the program.", Promise10RunTest::programStays);
        Checks.finish();
    }

    private static void whileEditing() {
        for (int n : Checks.ANY_INT) {
            Checks.noEffect("run(" + n + ") at the start", Checks::largest, x -> x.run(n), StackCacher.REFUSED);
            Checks.noEffect("run(" + n + ") while editing", () -> Prepared.inStatus(StackCacher.EDITING),
                x -> x.run(n), StackCacher.REFUSED);
            Checks.noEffect("run(" + n + ") after BAD_TARGET", () -> {
                StackCacher x = Checks.largest();
                Checks.load(x, StackCacher.JUMP, 24);
                x.compile();
                return x;
            }, x -> x.run(n), StackCacher.REFUSED);
        }
    }

    private static void whenEnded() {
        for (int status = StackCacher.HALTED; status <= StackCacher.RETURNS_FULL; status++) {
            int wanted = status;
            for (int n : Checks.ANY_INT) {
                Checks.noEffect("run(" + n + ") in status " + status, () -> Prepared.inStatus(wanted), x -> x.run(n),
                    status);
            }
            StackCacher x = Prepared.inStatus(status);
            x.feed(1);
            x.take();
            Checks.due("run(256) after feed and take in status " + status, x.run(256), status);
        }
    }

    private static StackCacher counting() {
        StackCacher x = Checks.largest();
        Checks.load(x, StackCacher.PUSH, 0);
        for (int at = 1; at < LOOP; at++) {
            Checks.load(x, StackCacher.ADDI, 1);
        }
        Checks.loadAndCompile(x, StackCacher.JUMP, 1);
        Checks.due("run(1)", x.run(1), StackCacher.READY);
        return x;
    }

    private static void executes(int n, int wanted) {
        StackCacher x = counting();
        Checks.due("run(" + n + ")", x.run(n), StackCacher.READY);
        Checks.due("pc() after run(" + n + ")", x.pc(), 1 + wanted % LOOP);
        Checks.dueArea("after run(" + n + ")", x, StackCacher.STACK, "[" + (wanted - wanted / LOOP) + "]");
        Checks.due("status() after run(" + n + ")", x.status(), StackCacher.READY);
    }

    private static void belowZero() {
        for (int n : Checks.ANY_INT) {
            if (n < 0) {
                executes(n, 0);
                Checks.noEffect("run(" + n + ") before HALT", () -> Prepared.inStatus(StackCacher.READY),
                    x -> x.run(n), StackCacher.READY);
            }
        }
    }

    private static void above256() {
        for (int n : new int[] {257, 258, 264, 265, 300, 511, 512, 513, 1000, 65535, 65536, 65537, Checks.HIGH - 1,
            Checks.HIGH}) {
            executes(n, 256);
        }
    }

    private static void upToN() {
        for (int n = 0; n <= 256; n++) {
            executes(n, n);
        }
        StackCacher x = counting();
        for (int k = 1; k <= 3; k++) {
            Checks.due("run(256) number " + k, x.run(256), StackCacher.READY);
            Checks.dueArea("after it", x, StackCacher.STACK, "[" + (k * 256 - k * 256 / LOOP) + "]");
        }
    }

    /** The smallest object, whose instruction at index last has the outcome; all before it have READY. */
    private static StackCacher program(int outcome) {
        StackCacher x = Checks.smallest();
        switch (outcome) {
            case StackCacher.HALTED -> Checks.load(x, StackCacher.PUSH, 1, StackCacher.ADDI, 1, StackCacher.HALT, 0);
            case StackCacher.UNDERFLOW -> Checks.load(x, StackCacher.PUSH, 1, StackCacher.ADDI, 1, StackCacher.ADD, 0);
            case StackCacher.OVERFLOW -> Checks.load(x, StackCacher.PUSH, 1, StackCacher.DUP, 0, StackCacher.DUP, 0,
                StackCacher.DUP, 0, StackCacher.PUSH, 2);
            case StackCacher.RETURNS_EMPTY -> Checks.load(x, StackCacher.PUSH, 1, StackCacher.RET, 0);
            case StackCacher.RETURNS_FULL -> Checks.load(x, StackCacher.PUSH, 1, StackCacher.CALL, 2,
                StackCacher.CALL, 3);
            case StackCacher.WAIT_IN -> Checks.load(x, StackCacher.PUSH, 1, StackCacher.IN, 0);
            default -> Checks.load(x, StackCacher.PUSH, 1, StackCacher.OUT, 0, StackCacher.PUSH, 2, StackCacher.OUT, 0);
        }
        // What would be executed next shows at once if the call does not end.
        Checks.loadAndCompile(x, StackCacher.DROP, 0, StackCacher.PUSH, 9, StackCacher.HALT, 0);
        return x;
    }

    private static void firstOutcomeEnds() {
        for (int outcome = StackCacher.HALTED; outcome <= StackCacher.WAIT_OUT; outcome++) {
            int last = program(outcome).count(StackCacher.OPS) - 4;
            StackCacher before = program(outcome);
            Checks.due("run(" + last + ") before outcome " + outcome, before.run(last), StackCacher.READY);
            String[] want = Checks.parts(before);
            want[Checks.STATUS] = "status " + (outcome <= StackCacher.RETURNS_FULL ? outcome : StackCacher.READY);
            want[Checks.PC] = "pc " + last;
            for (int n : new int[] {last + 1, last + 2, last + 3, 255, 256, 257, Checks.HIGH}) {
                StackCacher x = program(outcome);
                Checks.due("run(" + n + ") with outcome " + outcome, x.run(n), outcome);
                Checks.dueParts("after it", x, want);
            }
        }
    }

    /** Counts down from start in 4 * start instructions, comes to the op with 0 alone on the stack, and may go on. */
    private static StackCacher countdown(int start, int op) {
        StackCacher x = Checks.largest();
        Checks.loadAndCompile(x, StackCacher.PUSH, start, StackCacher.ADDI, -1, StackCacher.DUP, 0, StackCacher.JZ, 5,
            StackCacher.JUMP, 1, op, 0, StackCacher.HALT, 0);
        return x;
    }

    private static void allReady() {
        int[] ops = {StackCacher.HALT, StackCacher.ADD, StackCacher.RET, StackCacher.IN};
        int[] outcomes = {StackCacher.HALTED, StackCacher.UNDERFLOW, StackCacher.RETURNS_EMPTY, StackCacher.WAIT_IN};
        for (int k = 0; k < ops.length; k++) {
            StackCacher behind = countdown(64, ops[k]);
            Checks.due("run(256) before " + ops[k], behind.run(256), StackCacher.READY);
            Checks.due("pc()", behind.pc(), 5);
            Checks.due("status()", behind.status(), StackCacher.READY);
            Checks.due("run(0) before " + ops[k], behind.run(0), StackCacher.READY);
            Checks.due("run(1) of " + ops[k], behind.run(1), outcomes[k]);
            // With one instruction done beforehand, the slice of 256 just reaches it.
            StackCacher inside = countdown(64, ops[k]);
            inside.run(1);
            Checks.due("run(255) before " + ops[k], inside.run(255), StackCacher.READY);
            StackCacher last = countdown(64, ops[k]);
            last.run(1);
            Checks.due("run(256) up to " + ops[k], last.run(256), outcomes[k]);
        }
        for (int n : new int[] {0, 1, 255, 256, 257}) {
            StackCacher x = counting();
            Checks.due("run(" + n + ")", x.run(n), StackCacher.READY);
        }
    }

    private static StackCacher before(int outcome) {
        StackCacher x = program(outcome);
        x.run(x.count(StackCacher.OPS) - 4);
        return x;
    }

    private static void zero() {
        for (int outcome = StackCacher.HALTED; outcome <= StackCacher.WAIT_OUT; outcome++) {
            int wanted = outcome;
            Checks.noEffect("run(0) before outcome " + outcome, () -> before(wanted), x -> x.run(0),
                StackCacher.READY);
        }
        Checks.noEffect("run(0) while waiting for input", Prepared::waitingForInput, x -> x.run(0), StackCacher.READY);
        Checks.noEffect("run(0) while waiting for output", Prepared::waitingForOutput, x -> x.run(0),
            StackCacher.READY);
        Checks.noEffect("run(0) before ADDI", Promise10RunTest::counting, x -> x.run(0), StackCacher.READY);
    }

    private static void programStays() {
        for (int outcome = StackCacher.HALTED; outcome <= StackCacher.WAIT_OUT; outcome++) {
            StackCacher x = program(outcome);
            String[] before = Checks.parts(x);
            x.run(256);
            Checks.dueArea("after a run", x, StackCacher.OPS, before[StackCacher.OPS]);
            Checks.dueArea("after a run", x, StackCacher.ARGS, before[StackCacher.ARGS]);
        }
        StackCacher x = Checks.largest();
        x.feed(3);
        // Every opcode but HALT is executed on the way.
        Checks.loadAndCompile(x, StackCacher.CALL, 21, StackCacher.PUSH, 4, StackCacher.PUSH, 5, StackCacher.PUSH, 6,
            StackCacher.SWAP, 7, StackCacher.ROT, 8, StackCacher.OVER, 9, StackCacher.NIP, 10, StackCacher.TUCK, 11,
            StackCacher.ADDI, 12, StackCacher.ADD, 13, StackCacher.SUB, 14, StackCacher.MUL, 15, StackCacher.IN, 16,
            StackCacher.XOR, 17, StackCacher.DUP, 18, StackCacher.LESS, 19, StackCacher.JZ, 18, StackCacher.PUSH, 20,
            StackCacher.DROP, 21, StackCacher.JUMP, 23, StackCacher.PUSH, 22, StackCacher.OUT, 23, StackCacher.RET, 24);
        String[] before = Checks.parts(x);
        Checks.due("run(24) of a long program", x.run(24), StackCacher.READY);
        Checks.due("run(1) of its last RET", x.run(1), StackCacher.RETURNS_EMPTY);
        Checks.dueArea("after a long run", x, StackCacher.OPS, before[StackCacher.OPS]);
        Checks.dueArea("after a long run", x, StackCacher.ARGS, before[StackCacher.ARGS]);
    }
}
