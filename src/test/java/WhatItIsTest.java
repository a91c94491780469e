/** The document's part "What it is": what binds all promises together. FaceTest has the constants. */
final class WhatItIsTest {
    public static void main(String[] args) {
        Checks.sentence("Between any two slices the operand stack, the return stack and both queues can be read.",
            WhatItIsTest::readBetweenSlices);
        Checks.sentence("Every answer is what direct execution of the source instructions, one after the other, would "
            + "give.", WhatItIsTest::slicesOfAnySize);
        Checks.sentence("All answers depend on this state only", WhatItIsTest::historyDoesNotShow);
        Checks.sentence("at most programCells", () -> neverMore(StackCacher.OPS, 8, 24));
        Checks.sentence("the operand stack, a list of ints, at most stackCells",
            () -> neverMore(StackCacher.STACK, 4, 32));
        Checks.sentence("the return stack, a list of instruction indices, at most returnCells",
            () -> neverMore(StackCacher.RETURNS, 1, 8));
        Checks.sentence("**input**: a first-in first-out queue of ints, at most queueCells",
            () -> neverMore(StackCacher.INPUT, 1, 8));
        Checks.sentence("**output**: a first-in first-out queue of ints, at most queueCells",
            () -> neverMore(StackCacher.OUTPUT, 1, 8));
        Checks.sentence("While the status is `EDITING`, stack and returns are empty and pc is 0.",
            WhatItIsTest::whileEditing);
        Checks.sentence("`WAIT_IN` and `WAIT_OUT` are outcomes only, never statuses", WhatItIsTest::waitsAreNoStatuses);
        Checks.finish();
    }

    /** Sums up what it reads with a subroutine and writes each sum; with a 0 it goes another way. */
    private static StackCacher adder() {
        StackCacher x = new StackCacher(24, 6, 2, 3);
        Checks.loadAndCompile(x, StackCacher.PUSH, 0, StackCacher.IN, 0, StackCacher.DUP, 0, StackCacher.JZ, 8,
            StackCacher.CALL, 11, StackCacher.DUP, 0, StackCacher.OUT, 0, StackCacher.JUMP, 1, StackCacher.DROP, 0,
            StackCacher.CALL, 12, StackCacher.JUMP, 1, StackCacher.ADD, 0, StackCacher.PUSH, 2, StackCacher.OVER, 0,
            StackCacher.MUL, 0, StackCacher.SWAP, 0, StackCacher.NIP, 0, StackCacher.RET, 0);
        return x;
    }

    private static void readBetweenSlices() {
        StackCacher x = adder();
        x.feed(5);
        String[] want = {
            "pc 0 [] [] [5] []", "pc 1 [0] [] [5] []", "pc 2 [5 0] [] [] []", "pc 3 [5 5 0] [] [] []",
            "pc 4 [5 0] [] [] []", "pc 11 [5 0] [5] [] []", "pc 12 [5] [5] [] []", "pc 13 [2 5] [5] [] []",
            "pc 14 [5 2 5] [5] [] []", "pc 15 [10 5] [5] [] []", "pc 16 [5 10] [5] [] []", "pc 17 [5] [5] [] []",
            "pc 5 [5] [] [] []", "pc 6 [5 5] [] [] []", "pc 7 [5] [] [] [5]", "pc 1 [5] [] [] [5]"};
        for (String shown : want) {
            Checks.dueText("between slices", readable(x), shown);
            Checks.due("run(0)", x.run(0), StackCacher.READY);
            Checks.dueText("after run(0)", readable(x), shown);
            x.run(1);
        }
    }

    private static String readable(StackCacher x) {
        String text = "pc " + x.pc();
        for (int area = StackCacher.STACK; area <= StackCacher.OUTPUT; area++) {
            text += " " + Checks.area(x, area);
        }
        return text;
    }

    /** Counts without end, with JUMP, CALL and RET in every round: no wait and no fault cuts a slice short. */
    private static StackCacher counter() {
        StackCacher x = Checks.smallest();
        Checks.loadAndCompile(x, StackCacher.PUSH, 0, StackCacher.CALL, 3, StackCacher.JUMP, 1, StackCacher.ADDI, 1,
            StackCacher.RET, 0);
        return x;
    }

    private static void sameInOneSlice(int slice, StackCacher whole, StackCacher single) {
        int outcome = StackCacher.READY;
        for (int n = 0; n < slice && outcome == StackCacher.READY; n++) {
            outcome = single.run(1);
        }
        Checks.due("run(" + slice + ")", whole.run(slice), outcome);
        Checks.dueText("after run(" + slice + ")", Checks.state(whole), Checks.state(single));
    }

    private static void slicesOfAnySize() {
        for (int slice = 1; slice <= 256; slice++) {
            sameInOneSlice(slice, counter(), counter());
        }
        for (int slice = 2; slice <= 40; slice++) {
            StackCacher whole = adder();
            StackCacher single = adder();
            for (int k = 0; k < 60; k++) {
                if (k % 3 == 0) {
                    Checks.due("feed", whole.feed(k % 4), single.feed(k % 4));
                }
                if (k % 4 == 0) {
                    Checks.due("take", whole.take(), single.take());
                }
                sameInOneSlice(slice, whole, single);
            }
        }
    }

    /** The same state as a new object has after emit and feed, reached by a way that fills everything before. */
    private static void historyDoesNotShow() {
        for (int used = 0; used < 12; used++) {
            StackCacher old = Prepared.largestFull();
            old.edit();
            for (int k = 0; k < used; k++) {
                old.take();
            }
            if (used % 2 == 0) {
                old.clear();
            }
            while (old.count(StackCacher.OPS) > 0) {
                old.erase();
            }
            emptyQueues(old);
            StackCacher fresh = Checks.largest();
            for (StackCacher x : new StackCacher[] {old, fresh}) {
                x.feed(4);
                Checks.loadAndCompile(x, StackCacher.IN, 0, StackCacher.CALL, 3, StackCacher.JUMP, 0,
                    StackCacher.OUT, 0, StackCacher.RET, 0);
            }
            Checks.dueText("later answers", Checks.later(old), Checks.later(fresh));
        }
        StackCacher one = Checks.largest();
        StackCacher other = Checks.largest();
        Checks.loadAndCompile(one, StackCacher.PUSH, 1, StackCacher.OUT, 0, StackCacher.CALL, 0, StackCacher.HALT, 0);
        one.feed(1);
        one.run(256);
        Checks.dueText("another object", Checks.state(other), "status 0 pc 0 [] [] [] [] [] []");
        Checks.dueText("its later answers", Checks.later(other), Checks.later(Checks.largest()));
    }

    private static void emptyQueues(StackCacher x) {
        Checks.loadAndCompile(x, StackCacher.IN, 0, StackCacher.DROP, 0, StackCacher.JUMP, 0);
        Checks.due("run(256)", x.run(256), StackCacher.WAIT_IN);
        x.edit();
        for (int k = 0; k < 8; k++) {
            x.take();
            x.erase();
        }
    }

    /** Tries by all means to put more into a full object. */
    private static void neverMore(int area, int least, int greatest) {
        StackCacher[] full = {Prepared.smallestFull(), Prepared.largestFull()};
        int[] bound = {least, greatest};
        for (int k = 0; k < 2; k++) {
            StackCacher x = full[k];
            x.feed(1);
            x.emit(StackCacher.HALT, 0);
            x.run(256);
            Checks.due("count(" + area + ") of a full object", x.count(area), bound[k]);
            x.clear();
            Checks.load(x, StackCacher.PUSH, 1, StackCacher.DUP, 0, StackCacher.OUT, 0, StackCacher.JUMP, 0);
            for (int n = 0; n < 300; n++) {
                x.feed(n);
                x.emit(StackCacher.HALT, n);
                dueAtMost(x, area, bound[k]);
            }
            stuff(x, area, bound[k]);
        }
    }

    private static void dueAtMost(StackCacher x, int area, int bound) {
        int tooMany = Math.max(0, x.count(area) - bound);
        Checks.due("entries above the bound in area " + area, tooMany, 0);
    }

    private static void stuff(StackCacher x, int area, int bound) {
        int[][] loops = {{StackCacher.PUSH, 1}, {StackCacher.IN, 0}, {StackCacher.CALL, 0}};
        for (int[] first : loops) {
            x.clear();
            Checks.loadAndCompile(x, first[0], first[1], StackCacher.JUMP, 0);
            for (int n = 0; n < 100; n++) {
                x.feed(n);
                x.run(2);
                dueAtMost(x, area, bound);
            }
        }
        x.clear();
        Checks.loadAndCompile(x, StackCacher.PUSH, 1, StackCacher.OUT, 0, StackCacher.JUMP, 0);
        x.run(256);
        x.run(256);
        dueAtMost(x, area, bound);
    }

    private static void dueEditing(String when, StackCacher x) {
        Checks.due("status() " + when, x.status(), StackCacher.EDITING);
        Checks.due("count(STACK) " + when, x.count(StackCacher.STACK), 0);
        Checks.due("count(RETURNS) " + when, x.count(StackCacher.RETURNS), 0);
        Checks.due("pc() " + when, x.pc(), 0);
    }

    private static void whileEditing() {
        dueEditing("at the start", Checks.largest());
        for (int status = StackCacher.READY; status <= StackCacher.RETURNS_FULL; status++) {
            StackCacher x = Prepared.inStatus(status);
            x.edit();
            dueEditing("after edit", x);
            x.feed(1);
            x.take();
            x.emit(StackCacher.CALL, 99);
            x.patch(0, 3);
            dueEditing("after emit and patch", x);
            x.compile();
            dueEditing("after a compile that answered BAD_END", x);
            x.erase();
            x.run(5);
            dueEditing("after erase and a refused run", x);
            StackCacher y = Prepared.inStatus(status);
            y.clear();
            dueEditing("after clear", y);
        }
    }

    private static void waitsAreNoStatuses() {
        StackCacher in = Prepared.waitingForInput();
        StackCacher out = Prepared.waitingForOutput();
        for (int n : Checks.ANY_INT) {
            Checks.due("run(" + n + ") while IN waits", in.run(n), n > 0 ? StackCacher.WAIT_IN : StackCacher.READY);
            Checks.due("status() while IN waits", in.status(), StackCacher.READY);
            Checks.due("run(" + n + ") while OUT waits", out.run(n), n > 0 ? StackCacher.WAIT_OUT : StackCacher.READY);
            Checks.due("status() while OUT waits", out.status(), StackCacher.READY);
        }
    }
}
