/**
 * A compiler and machine for a small stack language, run in slices of source instructions.
 * Every answer must be that of direct execution, so the source itself is what is executed:
 * compile() checks the program once, and the execution relies on what it checked.
 */
public final class StackCacher {
    // opcodes
    public static final int HALT = 0;
    public static final int PUSH = 1;
    public static final int DUP = 2;
    public static final int DROP = 3;
    public static final int SWAP = 4;
    public static final int OVER = 5;
    public static final int ROT = 6;
    public static final int NIP = 7;
    public static final int TUCK = 8;
    public static final int ADDI = 9;
    public static final int ADD = 10;
    public static final int SUB = 11;
    public static final int MUL = 12;
    public static final int XOR = 13;
    public static final int LESS = 14;
    public static final int IN = 15;
    public static final int OUT = 16;
    public static final int JUMP = 17;
    public static final int JZ = 18;
    public static final int CALL = 19;
    public static final int RET = 20;
    // statuses (0 to 6) and outcomes of execution (1 to 8)
    public static final int EDITING = 0;
    public static final int READY = 1;
    public static final int HALTED = 2;
    public static final int UNDERFLOW = 3;
    public static final int OVERFLOW = 4;
    public static final int RETURNS_EMPTY = 5;
    public static final int RETURNS_FULL = 6;
    public static final int WAIT_IN = 7;
    public static final int WAIT_OUT = 8;
    // refusals
    public static final int REFUSED = -1;
    public static final int EMPTY = -2;
    public static final int BAD_END = -3;
    public static final int BAD_TARGET = -4;
    // areas for count and view
    public static final int STACK = 0;
    public static final int RETURNS = 1;
    public static final int INPUT = 2;
    public static final int OUTPUT = 3;
    public static final int OPS = 4;
    public static final int ARGS = 5;

    private static final int PROGRAM_LEAST = 8;
    private static final int PROGRAM_GREATEST = 24;
    private static final int STACK_LEAST = 4;
    private static final int STACK_GREATEST = 32;
    private static final int RETURN_LEAST = 1;
    private static final int RETURN_GREATEST = 8;
    private static final int QUEUE_LEAST = 1;
    private static final int QUEUE_GREATEST = 8;
    private static final int SLICE_GREATEST = 256;

    private final int programCells;
    private final int stackCells;
    private final int returnCells;
    private final int queueCells;

    private final int[] ops = new int[PROGRAM_GREATEST];
    private final int[] args = new int[PROGRAM_GREATEST];
    private final int[] stack = new int[STACK_GREATEST];
    private final int[] returns = new int[RETURN_GREATEST];
    // The queues are rings over the whole array, so that taking from the front moves nothing.
    private final int[] input = new int[QUEUE_GREATEST];
    private final int[] output = new int[QUEUE_GREATEST];

    private int state = EDITING;
    private int next = 0;
    private int programCount = 0;
    private int stackCount = 0;
    private int returnCount = 0;
    private int inputFront = 0;
    private int inputCount = 0;
    private int outputFront = 0;
    private int outputCount = 0;

    public StackCacher(int programCells, int stackCells, int returnCells, int queueCells) {
        this.programCells = clamp(programCells, PROGRAM_LEAST, PROGRAM_GREATEST);
        this.stackCells = clamp(stackCells, STACK_LEAST, STACK_GREATEST);
        this.returnCells = clamp(returnCells, RETURN_LEAST, RETURN_GREATEST);
        this.queueCells = clamp(queueCells, QUEUE_LEAST, QUEUE_GREATEST);
    }

    public int emit(int op, int arg) {
        if (state != EDITING || op < HALT || op > RET || programCount >= programCells) {
            return REFUSED;
        }
        int at = programCount;
        ops[at] = op;
        args[at] = arg;
        programCount = at + 1;
        return at;
    }

    public int patch(int at, int arg) {
        if (state != EDITING || at < 0 || at >= programCount) {
            return REFUSED;
        }
        args[at] = arg;
        return at;
    }

    public int erase() {
        if (state != EDITING || programCount == 0) {
            return REFUSED;
        }
        programCount = programCount - 1;
        return programCount;
    }

    public int compile() {
        if (state != EDITING) {
            return REFUSED;
        }
        if (programCount == 0) {
            return EMPTY;
        }
        if (!endsWell()) {
            return BAD_END;
        }
        if (!targetsAreInside()) {
            return BAD_TARGET;
        }
        restart(READY);
        return READY;
    }

    public int edit() {
        if (state == EDITING) {
            return REFUSED;
        }
        restart(EDITING);
        return EDITING;
    }

    public void clear() {
        restart(EDITING);
        programCount = 0;
        inputFront = 0;
        inputCount = 0;
        outputFront = 0;
        outputCount = 0;
    }

    public int feed(int v) {
        if (inputCount >= queueCells) {
            return REFUSED;
        }
        int back = ringIndex(inputFront, inputCount);
        input[back] = v;
        inputCount = inputCount + 1;
        return inputCount;
    }

    public int take() {
        if (outputCount == 0) {
            return 0;
        }
        int v = output[outputFront];
        outputFront = ringIndex(outputFront, 1);
        outputCount = outputCount - 1;
        return v;
    }

    public int run(int n) {
        if (state == EDITING) {
            return REFUSED;
        }
        if (state != READY) {
            return state;
        }
        int slice = clamp(n, 0, SLICE_GREATEST);
        for (int done = 0; done < slice; done++) {
            int outcome = executeOne();
            if (outcome != READY) {
                return outcome;
            }
        }
        return READY;
    }

    public int status() {
        return state;
    }

    public int pc() {
        return next;
    }

    public int count(int area) {
        switch (area) {
            case STACK:
                return stackCount;
            case RETURNS:
                return returnCount;
            case INPUT:
                return inputCount;
            case OUTPUT:
                return outputCount;
            case OPS:
            case ARGS:
                return programCount;
            default:
                return 0;
        }
    }

    public int view(int area, int i) {
        // An unknown area counts 0 entries, so this refuses it as well.
        if (i < 0 || i >= count(area)) {
            return 0;
        }
        switch (area) {
            case STACK:
                return stack[stackCount - 1 - i];
            case RETURNS:
                return returns[returnCount - 1 - i];
            case INPUT:
                return input[ringIndex(inputFront, i)];
            case OUTPUT:
                return output[ringIndex(outputFront, i)];
            case OPS:
                return ops[i];
            case ARGS:
                return args[i];
            default:
                return 0;
        }
    }

    private static int clamp(int value, int least, int greatest) {
        if (value < least) {
            return least;
        }
        if (value > greatest) {
            return greatest;
        }
        return value;
    }

    private static int ringIndex(int front, int places) {
        return (front + places) % QUEUE_GREATEST;
    }

    private void restart(int newState) {
        state = newState;
        next = 0;
        stackCount = 0;
        returnCount = 0;
    }

    // With such an end no instruction can run past the program: CALL never puts an index
    // behind it on returns either, since CALL is no end.
    private boolean endsWell() {
        int last = ops[programCount - 1];
        return last == HALT || last == JUMP || last == RET;
    }

    private boolean targetsAreInside() {
        for (int at = 0; at < programCount; at++) {
            int op = ops[at];
            boolean hasTarget = op == JUMP || op == JZ || op == CALL;
            if (hasTarget && (args[at] < 0 || args[at] >= programCount)) {
                return false;
            }
        }
        return true;
    }

    private int executeOne() {
        int op = ops[next];
        int arg = args[next];
        int hindrance = findHindrance(op);
        if (hindrance != READY) {
            // Waiting is no status: the same instruction is tried again by the next run.
            if (hindrance != WAIT_IN && hindrance != WAIT_OUT) {
                state = hindrance;
            }
            return hindrance;
        }
        if (op == HALT) {
            state = HALTED;
            return HALTED;
        }
        if (op >= JUMP) {
            branch(op, arg);
            return READY;
        }
        if (op >= IN) {
            moveThroughQueue(op);
        } else if (op >= ADDI) {
            calculate(op, arg);
        } else {
            arrange(op, arg);
        }
        next = next + 1;
        return READY;
    }

    // The order of these checks is promised: it decides which outcome shows when two apply.
    private int findHindrance(int op) {
        if (stackCount < need(op)) {
            return UNDERFLOW;
        }
        if (stackCount + growth(op) > stackCells) {
            return OVERFLOW;
        }
        if (op == CALL && returnCount >= returnCells) {
            return RETURNS_FULL;
        }
        if (op == RET && returnCount == 0) {
            return RETURNS_EMPTY;
        }
        if (op == IN && inputCount == 0) {
            return WAIT_IN;
        }
        if (op == OUT && outputCount >= queueCells) {
            return WAIT_OUT;
        }
        return READY;
    }

    private static int need(int op) {
        switch (op) {
            case DUP:
            case DROP:
            case ADDI:
            case OUT:
            case JZ:
                return 1;
            case SWAP:
            case OVER:
            case NIP:
            case TUCK:
            case ADD:
            case SUB:
            case MUL:
            case XOR:
            case LESS:
                return 2;
            case ROT:
                return 3;
            default:
                return 0;
        }
    }

    private static int growth(int op) {
        switch (op) {
            case PUSH:
            case DUP:
            case OVER:
            case TUCK:
            case IN:
                return 1;
            case DROP:
            case NIP:
            case ADD:
            case SUB:
            case MUL:
            case XOR:
            case LESS:
            case OUT:
            case JZ:
                return -1;
            default:
                return 0;
        }
    }

    private void arrange(int op, int arg) {
        if (op == PUSH) {
            push(arg);
        } else if (op == DUP) {
            push(stack[stackCount - 1]);
        } else if (op == DROP) {
            pop();
        } else if (op == ROT) {
            rotate();
        } else {
            arrangePair(op);
        }
    }

    private void rotate() {
        int z = pop();
        int y = pop();
        int x = pop();
        push(y);
        push(z);
        push(x);
    }

    private void arrangePair(int op) {
        int y = pop();
        int x = pop();
        switch (op) {
            case SWAP:
                push(y);
                push(x);
                break;
            case OVER:
                push(x);
                push(y);
                push(x);
                break;
            case TUCK:
                push(y);
                push(x);
                push(y);
                break;
            default: // NIP
                push(y);
                break;
        }
    }

    private void calculate(int op, int arg) {
        int y = pop();
        if (op == ADDI) {
            push(y + arg);
            return;
        }
        int x = pop();
        int result = combine(op, x, y);
        push(result);
    }

    private static int combine(int op, int x, int y) {
        switch (op) {
            case ADD:
                return x + y;
            case SUB:
                return x - y;
            case MUL:
                return x * y;
            case XOR:
                return x ^ y;
            default: // LESS
                return x < y ? 1 : 0;
        }
    }

    private void moveThroughQueue(int op) {
        if (op == IN) {
            int v = input[inputFront];
            inputFront = ringIndex(inputFront, 1);
            inputCount = inputCount - 1;
            push(v);
        } else {
            int back = ringIndex(outputFront, outputCount);
            output[back] = pop();
            outputCount = outputCount + 1;
        }
    }

    private void branch(int op, int arg) {
        switch (op) {
            case JZ:
                next = pop() == 0 ? arg : next + 1;
                break;
            case CALL:
                returns[returnCount] = next + 1;
                returnCount = returnCount + 1;
                next = arg;
                break;
            case RET:
                returnCount = returnCount - 1;
                next = returns[returnCount];
                break;
            default: // JUMP
                next = arg;
                break;
        }
    }

    // push and pop trust findHindrance, which looked at the depth before any effect began.
    private void push(int v) {
        stack[stackCount] = v;
        stackCount = stackCount + 1;
    }

    private int pop() {
        stackCount = stackCount - 1;
        return stack[stackCount];
    }
}
