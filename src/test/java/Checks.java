import java.util.List;
import java.util.function.Supplier;
import java.util.function.ToIntFunction;

/** What the tests share: the document's sentences, counting wrong answers, and reading all of an object's state. */
final class Checks {
    static final int LOW = Integer.MIN_VALUE;
    static final int HIGH = Integer.MAX_VALUE;

    /** Stands for "any int": both ends, every bound of the document with its neighbours, and powers of two. */
    static final int[] ANY_INT = {LOW, LOW + 1, -65536, -257, -256, -33, -32, -24, -8, -5, -2, -1, 0, 1, 2, 3, 4, 5, 6,
        7, 8, 9, 19, 20, 21, 23, 24, 25, 31, 32, 33, 255, 256, 257, 65535, 65536, HIGH - 1, HIGH};

    /** Indices into what parts answers; the areas stand there under their own numbers. */
    static final int STATUS = 6;
    static final int PC = 7;
    private static final int PARTS = 8;

    private static final List<ToIntFunction<StackCacher>> LATER_CALLS = List.of(
        x -> x.run(0), x -> x.run(1), StackCacher::take, x -> x.feed(11), x -> x.run(2), x -> x.feed(12),
        x -> x.run(256), StackCacher::take, x -> x.run(256), StackCacher::edit, StackCacher::compile,
        x -> x.run(3), StackCacher::edit, x -> x.emit(StackCacher.ADDI, 13), StackCacher::compile,
        StackCacher::erase, x -> x.patch(0, 14), x -> x.emit(StackCacher.HALT, 15), StackCacher::compile,
        x -> x.run(256), StackCacher::take, StackCacher::take, x -> x.feed(16));

    private static int wrong = 0;

    private Checks() {
    }

    /** Runs the test of one sentence of the document, or of a part of one, given in the document's words. */
    static void sentence(String words, Runnable test) {
        int before = wrong;
        try {
            test.run();
        } catch (RuntimeException thrown) {
            // Caught, so that the tests of the other sentences run as well.
            wrong++;
            System.out.println("thrown: " + thrown);
        }
        if (wrong != before) {
            System.out.println("BROKEN: " + words);
        }
    }

    static void due(String call, int got, int want) {
        if (got != want) {
            wrong++;
            System.out.println(call + " answered " + got + ", due is " + want);
        }
    }

    static void dueText(String what, String got, String want) {
        if (!got.equals(want)) {
            wrong++;
            System.out.println(what + ":\n  got " + got + "\n  due " + want);
        }
    }

    static void dueArea(String when, StackCacher x, int area, String want) {
        dueText("area " + area + " " + when, area(x, area), want);
    }

    static void dueParts(String when, StackCacher x, String[] want) {
        dueText("state " + when, String.join(" ", parts(x)), String.join(" ", want));
    }

    /** The call must answer as due and change nothing: not what can be read, and not what later calls answer. */
    static void noEffect(String what, Supplier<StackCacher> made, ToIntFunction<StackCacher> call, int want) {
        StackCacher x = made.get();
        due(what, call.applyAsInt(x), want);
        due(what + " again", call.applyAsInt(x), want);
        dueText("later answers after " + what, later(x), later(made.get()));
        // Each part from an object of its own, else a reading call that changes something would hide behind another.
        for (int part = 0; part < PARTS; part++) {
            StackCacher called = made.get();
            call.applyAsInt(called);
            dueText("part " + part + " after " + what, part(called, part), part(made.get(), part));
        }
    }

    /** The call must answer REFUSED and change nothing in every status but EDITING, also while the program waits. */
    static void refusedUnlessEditing(String what, ToIntFunction<StackCacher> call) {
        for (int status = StackCacher.READY; status <= StackCacher.RETURNS_FULL; status++) {
            int wanted = status;
            noEffect(what + " in status " + status, () -> Prepared.inStatus(wanted), call, StackCacher.REFUSED);
        }
        noEffect(what + " while waiting for input", Prepared::waitingForInput, call, StackCacher.REFUSED);
        noEffect(what + " while waiting for output", Prepared::waitingForOutput, call, StackCacher.REFUSED);
    }

    /** The next instruction must have the fault, and nothing but the status may change. */
    static void dueFault(String what, StackCacher x, int fault) {
        String[] want = parts(x);
        want[STATUS] = "status " + fault;
        due("run(1) of " + what, x.run(1), fault);
        dueParts("after " + what, x, want);
    }

    static void finish() {
        if (wrong != 0) {
            System.out.println(wrong + " answers are not as due");
            System.exit(1);
        }
    }

    static StackCacher largest() {
        return new StackCacher(24, 32, 8, 8);
    }

    static StackCacher smallest() {
        return new StackCacher(8, 4, 1, 1);
    }

    /** Emits opcode and operand pairs, each of which must be taken. */
    static void load(StackCacher x, int... pairs) {
        for (int k = 0; k < pairs.length; k += 2) {
            if (x.emit(pairs[k], pairs[k + 1]) == StackCacher.REFUSED) {
                due("emit(" + pairs[k] + ", " + pairs[k + 1] + ")", StackCacher.REFUSED, k / 2);
            }
        }
    }

    static void loadAndCompile(StackCacher x, int... pairs) {
        load(x, pairs);
        due("compile()", x.compile(), StackCacher.READY);
    }

    /** The entries of one area in the order of view, as in "[3 2 1]". */
    static String area(StackCacher x, int area) {
        StringBuilder text = new StringBuilder("[");
        for (int i = 0; i < x.count(area); i++) {
            text.append(i == 0 ? "" : " ").append(x.view(area, i));
        }
        return text.append("]").toString();
    }

    private static String part(StackCacher x, int part) {
        return switch (part) {
            case STATUS -> "status " + x.status();
            case PC -> "pc " + x.pc();
            default -> area(x, part);
        };
    }

    /** All state that can be read, so that a test can set what must have changed and compare the whole. */
    static String[] parts(StackCacher x) {
        String[] found = new String[PARTS];
        for (int part = 0; part < PARTS; part++) {
            found[part] = part(x, part);
        }
        return found;
    }

    /** All state that can be read, in one line. */
    static String state(StackCacher x) {
        StringBuilder text = new StringBuilder();
        text.append("status ").append(x.status()).append(" pc ").append(x.pc());
        for (int area = StackCacher.STACK; area <= StackCacher.ARGS; area++) {
            text.append(" ").append(area(x, area));
        }
        return text.toString();
    }

    /** Uses the object up: what a fixed run of calls answers from here on, and at last its sizes. */
    static String later(StackCacher x) {
        StringBuilder text = new StringBuilder();
        for (ToIntFunction<StackCacher> call : LATER_CALLS) {
            text.append(call.applyAsInt(x)).append(": ").append(state(x)).append("\n");
        }
        return text.append(Sizes.of(x)).toString();
    }
}
