/** Runs of calls made by a fixed generator: every answer and the whole state must be the model's. */
final class ModelTest {
    private static final int OBJECTS = 1500;
    private static final int CALLS = 250;

    private static long seed = 20261115;
    private static final int[] outcomes = new int[9];
    private static final int[] reached = new int[21];

    public static void main(String[] args) {
        for (int k = 0; k < OBJECTS; k++) {
            compareOneObject(k);
        }
        // Else the comparison would pass without having looked at something.
        for (int outcome = 1; outcome <= 8; outcome++) {
            Checks.dueText("outcome " + outcome, often(outcomes[outcome]), "often");
        }
        for (int op = 0; op <= 20; op++) {
            Checks.dueText("opcode " + op, often(reached[op]), "often");
        }
        Checks.finish();
    }

    private static String often(int times) {
        return times >= 100 ? "often" : "only " + times + " times";
    }

    private static int below(int bound) {
        seed = seed * 6364136223846793005L + 1442695040888963407L;
        return (int) ((seed >>> 33) % bound);
    }

    private static int anyInt() {
        int[] edges = {Checks.LOW, Checks.LOW + 1, -257, -1, 0, 1, 2, 20, 21, 24, 256, 257, Checks.HIGH};
        int kind = below(3);
        return kind == 0 ? edges[below(edges.length)] : kind == 1 ? below(11) - 4 : (int) (seed >>> 20);
    }

    private static void compareOneObject(int number) {
        int[] sizes = {below(30), below(2) == 0 ? below(8) : below(40), below(11) - 1, below(11) - 1};
        StackCacher x = new StackCacher(sizes[0], sizes[1], sizes[2], sizes[3]);
        Model m = new Model(sizes[0], sizes[1], sizes[2], sizes[3]);
        for (int k = 0; k < CALLS; k++) {
            String what = "object " + number + ", call " + k + ": ";
            if (m.status == StackCacher.EDITING && below(3) == 0) {
                writeProgram(what, x, m);
            } else if (m.status > StackCacher.READY && below(4) == 0) {
                leaveProgram(what, x, m);
            } else {
                compareOneCall(what, x, m);
            }
            Checks.dueText(what + "state", Checks.state(x), m.state());
        }
    }

    /** A program that mostly compiles and does not end at once. */
    private static void writeProgram(String what, StackCacher x, Model m) {
        int length = 1 + below(m.programCells);
        while (m.program.size() < length) {
            boolean last = m.program.size() == length - 1;
            int[] ends = {StackCacher.HALT, StackCacher.JUMP, StackCacher.RET};
            int op = last ? ends[below(3)] : below(4) == 0 ? StackCacher.PUSH : below(40) == 0 ? 0 : 1 + below(20);
            int arg = op >= StackCacher.JUMP && below(50) > 0 ? below(length) : anyInt();
            Checks.due(what + "emit", x.emit(op, arg), m.emit(op, arg));
        }
        Checks.due(what + "compile", x.compile(), m.compile());
    }

    /** Without clear, so that the queues fill up from program to program. */
    private static void leaveProgram(String what, StackCacher x, Model m) {
        Checks.due(what + "edit", x.edit(), m.edit());
        for (int left = below(25); left > 0; left--) {
            Checks.due(what + "erase", x.erase(), m.erase());
        }
    }

    private static void compareOneCall(String what, StackCacher x, Model m) {
        int p = anyInt();
        int q = anyInt();
        int area = below(6);
        switch (below(30)) {
            case 0 -> Checks.due(what + "emit", x.emit(p, q), m.emit(p, q));
            case 1 -> Checks.due(what + "patch", x.patch(p, q), m.patch(p, q));
            case 2 -> Checks.due(what + "erase", x.erase(), m.erase());
            case 3 -> Checks.due(what + "compile", x.compile(), m.compile());
            case 4 -> Checks.due(what + "edit", x.edit(), m.edit());
            case 5 -> compareClear(x, m);
            case 6, 7, 8, 9, 10, 11 -> Checks.due(what + "feed", x.feed(p), m.feed(p));
            case 12, 13 -> Checks.due(what + "take", x.take(), m.take());
            case 14 -> Checks.due(what + "count", x.count(p), m.count(p));
            case 15 -> Checks.due(what + "view", x.view(p, q), m.view(p, q));
            case 16 -> Checks.due(what + "view", x.view(area, q), m.view(area, q));
            default -> compareRun(what, x, m, below(3) == 0 ? p : below(6));
        }
    }

    private static void compareClear(StackCacher x, Model m) {
        // Seldom, since a run of calls says more the longer it is.
        if (below(4) == 0) {
            x.clear();
            m.clear();
        }
    }

    private static void compareRun(String what, StackCacher x, Model m, int n) {
        boolean ready = m.status == StackCacher.READY;
        if (ready) {
            reached[m.program.get(m.pc)[0]]++;
        }
        int want = m.run(n);
        Checks.due(what + "run(" + n + ")", x.run(n), want);
        if (ready) {
            outcomes[want]++;
        }
    }
}
