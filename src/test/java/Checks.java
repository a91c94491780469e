/** What the tests share: counting wrong answers, loading programs, and reading all of an object's state. */
final class Checks {
    static final int LOW = Integer.MIN_VALUE;
    static final int HIGH = Integer.MAX_VALUE;

    private static int wrong = 0;

    private Checks() {
    }

    static void due(String call, int got, int want) {
        if (got != want) {
            wrong++;
            System.out.println(call + " answered " + got + ", due is " + want);
        }
    }

    static void dueText(String what, String got, String want) {
        if (!got.equals(want)) {
            wrong++;
            System.out.println(what + ":\n  got " + got + "\n  due " + want);
        }
    }

    static void finish() {
        if (wrong != 0) {
            System.out.println(wrong + " answers are not as due");
            System.exit(1);
        }
    }

    static StackCacher largest() {
        return new StackCacher(24, 32, 8, 8);
    }

    static StackCacher smallest() {
        return new StackCacher(8, 4, 1, 1);
    }

    /** Emits opcode and operand pairs, each of which must be taken. */
    static void load(StackCacher x, int... pairs) {
        for (int k = 0; k < pairs.length; k += 2) {
            int at = x.count(StackCacher.OPS);
            due("emit(" + pairs[k] + ", " + pairs[k + 1] + ")", x.emit(pairs[k], pairs[k + 1]), at);
        }
    }

    static void loadAndCompile(StackCacher x, int... pairs) {
        load(x, pairs);
        due("compile()", x.compile(), StackCacher.READY);
    }

    /** The entries of one area in the order of view, as in "[3 2 1]". */
    static String area(StackCacher x, int area) {
        StringBuilder text = new StringBuilder("[");
        for (int i = 0; i < x.count(area); i++) {
            text.append(i == 0 ? "" : " ").append(x.view(area, i));
        }
        return text.append("]").toString();
    }

    static void dueArea(String when, StackCacher x, int area, String want) {
        dueText("area " + area + " " + when, area(x, area), want);
    }

    /** All state that can be read. */
    static String state(StackCacher x) {
        StringBuilder text = new StringBuilder();
        text.append("status ").append(x.status()).append(" pc ").append(x.pc());
        for (int area = StackCacher.STACK; area <= StackCacher.ARGS; area++) {
            text.append(" ").append(area(x, area));
        }
        return text.toString();
    }

    /** An object in each of the seven statuses, with entries wherever the status allows them. */
    static StackCacher inStatus(int status) {
        StackCacher x = new StackCacher(24, 4, 2, 2);
        x.feed(70);
        x.feed(80);
        load(x, StackCacher.PUSH, 5, StackCacher.OUT, 0, StackCacher.CALL, 3, StackCacher.PUSH, 6);
        switch (status) {
            case StackCacher.EDITING:
                load(x, StackCacher.HALT, 0);
                return x;
            case StackCacher.READY:
            case StackCacher.HALTED:
                load(x, StackCacher.HALT, 0);
                break;
            case StackCacher.UNDERFLOW:
                load(x, StackCacher.ADD, 0, StackCacher.HALT, 0);
                break;
            case StackCacher.OVERFLOW:
                load(x, StackCacher.DUP, 0, StackCacher.JUMP, 4);
                break;
            case StackCacher.RETURNS_EMPTY:
                x.patch(2, 4);
                load(x, StackCacher.RET, 0);
                break;
            default:
                load(x, StackCacher.DROP, 0, StackCacher.CALL, 3, StackCacher.HALT, 0);
                break;
        }
        due("compile()", x.compile(), StackCacher.READY);
        x.run(status == StackCacher.READY ? 4 : 256);
        due("status() of the prepared object", x.status(), status);
        return x;
    }
}
