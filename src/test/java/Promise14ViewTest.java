/** Promise 14: view tells each entry of each area in its order, and 0 outside. */
final class Promise14ViewTest {
    public static void main(String[] args) {
        Checks.sentence("`view(area, i)` works in any status", Promise14ViewTest::anyStatus);
        Checks.sentence("and changes nothing", Promise14ViewTest::changesNothing);
        Checks.sentence("It answers 0 if area is not one of 0 to 5", Promise14ViewTest::otherAreas);
        Checks.sentence("or i is below 0", Promise14ViewTest::belowZero);
        Checks.sentence("or i is not below `count(area)`", Promise14ViewTest::notBelowTheCount);
        Checks.sentence("`STACK`: the item i places below the top (0 is the top)", Promise14ViewTest::stack);
        Checks.sentence("`RETURNS`: the entry i places below the latest (0 is the latest)",
            Promise14ViewTest::returns);
        Checks.sentence("`INPUT`, `OUTPUT`: the value i places behind the front (0 is the front, the oldest)",
            Promise14ViewTest::queues);
        Checks.sentence("`OPS`: the opcode at index i", Promise14ViewTest::ops);
        Checks.sentence("`ARGS`: the operand at index i, as given by the `emit` or `patch` that set it last",
            Promise14ViewTest::operands);
        Checks.sentence("An entry may itself be 0.", Promise14ViewTest::entriesOfZero);
        Checks.sentence("In status `READY`, `HALTED` or a fault, the areas `STACK` and `RETURNS` show the complete "
            + "stack and returns as they are after the instructions executed so far.", Promise14ViewTest::complete);
        Checks.finish();
    }

    private static void anyStatus() {
        for (int status = 0; status <= 6; status++) {
            Checks.dueParts("in status " + status, Prepared.inStatus(status), Prepared.parts(status));
        }
    }

    private static void changesNothing() {
        for (int status = 0; status <= 6; status++) {
            int wanted = status;
            for (int area = -1; area <= 6; area++) {
                int shown = area;
                for (int i : new int[] {Checks.LOW, -1, 0, 1, 7, 8, Checks.HIGH}) {
                    Checks.noEffect("view(" + area + ", " + i + ") in status " + status,
                        () -> Prepared.inStatus(wanted), x -> x.view(shown, i),
                        Prepared.inStatus(status).view(area, i));
                }
            }
        }
    }

    private static void otherAreas() {
        StackCacher full = Prepared.largestFull();
        for (int area : Checks.ANY_INT) {
            if (area < 0 || area > 5) {
                for (int i : Checks.ANY_INT) {
                    Checks.due("view(" + area + ", " + i + ")", full.view(area, i), 0);
                    Checks.due("view(" + area + ", " + i + ") at the start", Checks.largest().view(area, i), 0);
                }
            }
        }
    }

    private static void belowZero() {
        StackCacher full = Prepared.largestFull();
        for (int area = 0; area <= 5; area++) {
            for (int i = -1; i >= -300; i--) {
                Checks.due("view(" + area + ", " + i + ")", full.view(area, i), 0);
            }
            for (int i : Checks.ANY_INT) {
                Checks.due("view(" + area + ", " + i + ") below 0", i < 0 ? full.view(area, i) : 0, 0);
                Checks.due("view(" + area + ", " + i + ") of nothing", Checks.largest().view(area, i), 0);
            }
        }
    }

    /** From the first index outside on; what once lay there must not show either. */
    private static void dueOutside(String when, StackCacher x) {
        for (int area = 0; area <= 5; area++) {
            int count = x.count(area);
            for (int i = count; i < count + 40; i++) {
                Checks.due("view(" + area + ", " + i + ") " + when, x.view(area, i), 0);
            }
            for (int i : Checks.ANY_INT) {
                Checks.due("view(" + area + ", " + i + ") " + when, i >= count ? x.view(area, i) : 0, 0);
            }
        }
    }

    private static void notBelowTheCount() {
        dueOutside("at the start", Checks.largest());
        dueOutside("with everything full", Prepared.largestFull());
        dueOutside("with all of the smallest full", Prepared.smallestFull());
        for (int status = 0; status <= 6; status++) {
            dueOutside("in status " + status, Prepared.inStatus(status));
        }
        StackCacher x = Prepared.largestFull();
        x.take();
        dueOutside("after take", x);
        x.edit();
        dueOutside("after edit", x);
        x.erase();
        dueOutside("after erase", x);
        x.compile();
        x.run(7);
        dueOutside("after IN", x);
        x.clear();
        dueOutside("after clear", x);
    }

    private static void stack() {
        StackCacher x = Prepared.largestFull();
        Checks.due("view(STACK, 0)", x.view(StackCacher.STACK, 0), 0);
        Checks.due("view(STACK, 1)", x.view(StackCacher.STACK, 1), 0);
        for (int i = 2; i <= 30; i++) {
            Checks.due("view(STACK, " + i + ")", x.view(StackCacher.STACK, i), 131 - i);
        }
        Checks.due("view(STACK, 31)", x.view(StackCacher.STACK, 31), 0);
        Checks.dueArea("in the smallest", Prepared.smallestFull(), StackCacher.STACK, "[13 12 11 10]");
    }

    private static void returns() {
        Checks.dueArea("in the largest", Prepared.largestFull(), StackCacher.RETURNS, "[18 17 16 15 14 13 12 11]");
        Checks.dueArea("in the smallest", Prepared.smallestFull(), StackCacher.RETURNS, "[7]");
    }

    private static void queues() {
        StackCacher x = Prepared.largestFull();
        Checks.dueArea("when full", x, StackCacher.INPUT, "[201 202 203 204 205 206 207 208]");
        Checks.dueArea("when full", x, StackCacher.OUTPUT, "[301 302 303 304 305 306 307 308]");
        StackCacher y = new StackCacher(8, 4, 1, 3);
        Checks.loadAndCompile(y, StackCacher.IN, 0, StackCacher.OUT, 0, StackCacher.JUMP, 0);
        y.feed(1);
        y.feed(2);
        // Each round moves both fronts on by one, and so around the whole array more than once.
        for (int k = 3; k < 30; k++) {
            y.feed(k);
            Checks.dueArea("in round " + k, y, StackCacher.INPUT, "[" + (k - 2) + " " + (k - 1) + " " + k + "]");
            Checks.due("run(3)", y.run(3), StackCacher.READY);
            if (k >= 5) {
                Checks.dueArea("in round " + k, y, StackCacher.OUTPUT,
                    "[" + (k - 4) + " " + (k - 3) + " " + (k - 2) + "]");
                Checks.due("take()", y.take(), k - 4);
            }
        }
    }

    private static void ops() {
        StackCacher x = Checks.largest();
        for (int at = 0; at < 24; at++) {
            Checks.load(x, (at + 5) % 21, 0);
        }
        for (int at = 0; at < 24; at++) {
            Checks.due("view(OPS, " + at + ")", x.view(StackCacher.OPS, at), (at + 5) % 21);
        }
        x.erase();
        Checks.load(x, StackCacher.RET, 0);
        Checks.due("view(OPS, 23) when set anew", x.view(StackCacher.OPS, 23), StackCacher.RET);
    }

    private static void operands() {
        for (int arg : Checks.ANY_INT) {
            StackCacher x = Checks.largest();
            Checks.load(x, StackCacher.PUSH, arg, StackCacher.HALT, ~arg);
            Checks.dueArea("as emitted", x, StackCacher.ARGS, "[" + arg + " " + ~arg + "]");
            x.patch(0, ~arg);
            x.patch(1, arg);
            Checks.dueArea("as patched", x, StackCacher.ARGS, "[" + ~arg + " " + arg + "]");
            x.patch(0, arg);
            Checks.dueArea("as patched last", x, StackCacher.ARGS, "[" + arg + " " + arg + "]");
            x.compile();
            x.run(256);
            x.patch(0, 77);
            Checks.dueArea("after a refused patch", x, StackCacher.ARGS, "[" + arg + " " + arg + "]");
            x.edit();
            x.erase();
            Checks.load(x, StackCacher.HALT, 78);
            Checks.dueArea("as emitted last", x, StackCacher.ARGS, "[" + arg + " 78]");
        }
    }

    private static void entriesOfZero() {
        StackCacher x = Checks.largest();
        x.feed(0);
        x.feed(0);
        x.feed(9);
        Checks.loadAndCompile(x, StackCacher.IN, 0, StackCacher.OUT, 0, StackCacher.PUSH, 0, StackCacher.PUSH, 0,
            StackCacher.HALT, 0);
        Checks.due("run(256)", x.run(256), StackCacher.HALTED);
        Checks.dueText("with entries of 0", Checks.state(x),
            "status 2 pc 4 [0 0] [] [0 9] [0] [15 16 1 1 0] [0 0 0 0 0]");
    }

    private static void complete() {
        StackCacher x = new StackCacher(24, 4, 2, 1);
        Checks.loadAndCompile(x, StackCacher.PUSH, 1, StackCacher.CALL, 3, StackCacher.HALT, 0, StackCacher.PUSH, 2,
            StackCacher.CALL, 6, StackCacher.RET, 0, StackCacher.OVER, 0, StackCacher.TUCK, 0, StackCacher.NIP, 0,
            StackCacher.ROT, 0, StackCacher.SUB, 0, StackCacher.RET, 0);
        String[] want = {"[] []", "[1] []", "[1] [2]", "[2 1] [2]", "[2 1] [5 2]", "[1 2 1] [5 2]", "[1 2 1 1] [5 2]",
            "[1 1 1] [5 2]", "[1 1 1] [5 2]", "[0 1] [5 2]", "[0 1] [2]", "[0 1] []", "[0 1] []"};
        for (int k = 0; k < want.length; k++) {
            String shown = Checks.area(x, StackCacher.STACK) + " " + Checks.area(x, StackCacher.RETURNS);
            Checks.dueText("after " + k + " instructions", shown, want[k]);
            x.run(1);
        }
        Checks.due("status()", x.status(), StackCacher.HALTED);
        Checks.dueArea("when halted", x, StackCacher.STACK, "[0 1]");
        Checks.dueArea("at OVERFLOW", Prepared.inStatus(StackCacher.OVERFLOW), StackCacher.STACK, "[6 6 6 6]");
        Checks.dueArea("at RETURNS_FULL", Prepared.inStatus(StackCacher.RETURNS_FULL), StackCacher.RETURNS, "[7 5]");
        Checks.dueArea("at UNDERFLOW", Prepared.inStatus(StackCacher.UNDERFLOW), StackCacher.STACK, "[6]");
        Checks.dueArea("at RETURNS_EMPTY", Prepared.inStatus(StackCacher.RETURNS_EMPTY), StackCacher.STACK, "[6]");
    }
}
