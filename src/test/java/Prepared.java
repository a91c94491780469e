/** Objects brought into a wanted state, by calls of the public face alone. */
final class Prepared {
    private Prepared() {
    }

    /**
     * In each status there are entries in every area where the status allows them, and room wherever it leaves any.
     * Nothing is read here, so that a test can tell whether reading changes something.
     */
    static StackCacher inStatus(int status) {
        StackCacher x = new StackCacher(24, 4, 2, 3);
        Checks.load(x, StackCacher.PUSH, 5, StackCacher.OUT, 0, StackCacher.PUSH, 0, StackCacher.OUT, 0,
            StackCacher.CALL, 5, StackCacher.PUSH, 6);
        switch (status) {
            case StackCacher.UNDERFLOW -> Checks.load(x, StackCacher.ADD, 0, StackCacher.HALT, 0);
            case StackCacher.OVERFLOW -> Checks.load(x, StackCacher.DUP, 0, StackCacher.JUMP, 6);
            case StackCacher.RETURNS_FULL -> Checks.load(x, StackCacher.CALL, 6, StackCacher.HALT, 0);
            case StackCacher.RETURNS_EMPTY -> {
                // The CALL goes to the RET, which comes back and is met again with nothing left.
                x.patch(4, 6);
                Checks.load(x, StackCacher.RET, 0);
            }
            default -> Checks.load(x, StackCacher.HALT, 0);
        }
        Checks.due("compile()", x.compile(), StackCacher.READY);
        boolean ends = status >= StackCacher.HALTED;
        Checks.due("run to status " + status, x.run(ends ? 256 : 6), ends ? status : StackCacher.READY);
        if (status == StackCacher.EDITING) {
            x.edit();
        }
        // At the end, so that input shows it if a later call empties what it must not touch.
        x.feed(70);
        x.feed(80);
        return x;
    }

    /** What Checks.parts must tell of inStatus, written out, since both could go wrong by the same fault. */
    static String[] parts(int status) {
        String stack = status == StackCacher.EDITING ? "[]" : status == StackCacher.OVERFLOW ? "[6 6 6 6]" : "[6]";
        String returns = status == StackCacher.EDITING || status == StackCacher.RETURNS_EMPTY ? "[]"
            : status == StackCacher.RETURNS_FULL ? "[7 5]" : "[5]";
        String[] program = switch (status) {
            case StackCacher.UNDERFLOW -> new String[] {"[1 16 1 16 19 1 10 0]", "[5 0 0 0 5 6 0 0]"};
            case StackCacher.OVERFLOW -> new String[] {"[1 16 1 16 19 1 2 17]", "[5 0 0 0 5 6 0 6]"};
            case StackCacher.RETURNS_FULL -> new String[] {"[1 16 1 16 19 1 19 0]", "[5 0 0 0 5 6 6 0]"};
            case StackCacher.RETURNS_EMPTY -> new String[] {"[1 16 1 16 19 1 20]", "[5 0 0 0 6 6 0]"};
            default -> new String[] {"[1 16 1 16 19 1 0]", "[5 0 0 0 5 6 0]"};
        };
        return new String[] {stack, returns, "[70 80]", "[5 0]", program[0], program[1], "status " + status,
            status == StackCacher.EDITING ? "pc 0" : "pc 6"};
    }

    /** READY, its last run having answered WAIT_IN; input is empty, all other areas are not. */
    static StackCacher waitingForInput() {
        StackCacher x = new StackCacher(24, 8, 2, 3);
        Checks.loadAndCompile(x, StackCacher.PUSH, 5, StackCacher.OUT, 0, StackCacher.CALL, 3, StackCacher.PUSH, 6,
            StackCacher.IN, 0, StackCacher.ADD, 0, StackCacher.JUMP, 4);
        Checks.due("run(256)", x.run(256), StackCacher.WAIT_IN);
        return x;
    }

    /** READY, its last run having answered WAIT_OUT; output is full, no area is empty. */
    static StackCacher waitingForOutput() {
        StackCacher x = new StackCacher(24, 8, 2, 3);
        x.feed(70);
        Checks.loadAndCompile(x, StackCacher.CALL, 1, StackCacher.PUSH, 1, StackCacher.DUP, 0, StackCacher.OUT, 0,
            StackCacher.ADDI, 1, StackCacher.JUMP, 2);
        Checks.due("run(256)", x.run(256), StackCacher.WAIT_OUT);
        return x;
    }

    /** The least sizes, READY before the HALT at index 7, with every area full. */
    static StackCacher smallestFull() {
        StackCacher x = Checks.smallest();
        Checks.loadAndCompile(x, StackCacher.PUSH, 40, StackCacher.OUT, 0, StackCacher.PUSH, 10, StackCacher.PUSH, 11,
            StackCacher.PUSH, 12, StackCacher.PUSH, 13, StackCacher.CALL, 7, StackCacher.HALT, 0);
        Checks.due("run(7)", x.run(7), StackCacher.READY);
        Checks.due("feed(30)", x.feed(30), 1);
        return x;
    }

    /** The greatest sizes, READY before the HALT at index 18, with every area full. */
    static StackCacher largestFull() {
        StackCacher x = Checks.largest();
        // Input steers it: a 0 ends the loop that writes output, the next 0 the one that fills the stack.
        Checks.load(x, StackCacher.IN, 0, StackCacher.DUP, 0, StackCacher.JZ, 5, StackCacher.OUT, 0,
            StackCacher.JUMP, 0, StackCacher.IN, 0, StackCacher.DUP, 0, StackCacher.JZ, 9, StackCacher.JUMP, 5,
            StackCacher.DUP, 0);
        for (int at = 10; at < 18; at++) {
            Checks.load(x, StackCacher.CALL, at + 1);
        }
        for (int at = 18; at < 24; at++) {
            Checks.load(x, StackCacher.HALT, at);
        }
        Checks.due("compile()", x.compile(), StackCacher.READY);
        feedAndRun(x, 301, 302, 303, 304, 305, 306, 307, 308, 0);
        for (int v = 101; v <= 129; v++) {
            feedAndRun(x, v);
        }
        x.feed(0);
        Checks.due("run(12)", x.run(12), StackCacher.READY);
        for (int v = 201; v <= 208; v++) {
            x.feed(v);
        }
        return x;
    }

    private static void feedAndRun(StackCacher x, int... values) {
        for (int v : values) {
            x.feed(v);
            Checks.due("run(256)", x.run(256), StackCacher.WAIT_IN);
        }
    }
}
