import java.util.ArrayDeque;
import java.util.ArrayList;
import java.util.List;

/**
 * The document read a second time, in lists and with the effects as text, so that a slip
 * in StackCacher is not likely to be repeated here.
 */
final class Model {
    /** Before and after with the top at the right; a is the operand, v the input, r the result. */
    private static final String[] EFFECTS = {
        "--", "--a", "x--xx", "x--", "xy--yx", "xy--xyx", "xyz--yzx", "xy--y", "xy--yxy", "x--r",
        "xy--r", "xy--r", "xy--r", "xy--r", "xy--r", "--v", "x--", "--", "x--", "--", "--"};

    final int programCells;
    final int stackCells;
    final int returnCells;
    final int queueCells;
    int status = 0;
    int pc = 0;
    final List<int[]> program = new ArrayList<>();
    final ArrayList<Integer> stack = new ArrayList<>();
    final ArrayList<Integer> returns = new ArrayList<>();
    final ArrayDeque<Integer> input = new ArrayDeque<>();
    final ArrayDeque<Integer> output = new ArrayDeque<>();

    Model(int programCells, int stackCells, int returnCells, int queueCells) {
        this.programCells = Math.min(24, Math.max(8, programCells));
        this.stackCells = Math.min(32, Math.max(4, stackCells));
        this.returnCells = Math.min(8, Math.max(1, returnCells));
        this.queueCells = Math.min(8, Math.max(1, queueCells));
    }

    int emit(int op, int arg) {
        if (status != 0 || op < 0 || op > 20 || program.size() == programCells) {
            return -1;
        }
        program.add(new int[] {op, arg});
        return program.size() - 1;
    }

    int patch(int at, int arg) {
        if (status != 0 || at < 0 || at >= program.size()) {
            return -1;
        }
        program.get(at)[1] = arg;
        return at;
    }

    int erase() {
        if (status != 0 || program.isEmpty()) {
            return -1;
        }
        program.remove(program.size() - 1);
        return program.size();
    }

    int compile() {
        if (status != 0) {
            return -1;
        }
        if (program.isEmpty()) {
            return -2;
        }
        if (!List.of(0, 17, 20).contains(program.get(program.size() - 1)[0])) {
            return -3;
        }
        for (int[] instruction : program) {
            boolean inside = instruction[1] >= 0 && instruction[1] < program.size();
            if (List.of(17, 18, 19).contains(instruction[0]) && !inside) {
                return -4;
            }
        }
        status = 1;
        return 1;
    }

    int edit() {
        if (status == 0) {
            return -1;
        }
        status = 0;
        pc = 0;
        stack.clear();
        returns.clear();
        return 0;
    }

    void clear() {
        edit();
        program.clear();
        input.clear();
        output.clear();
    }

    int feed(int v) {
        if (input.size() == queueCells) {
            return -1;
        }
        input.addLast(v);
        return input.size();
    }

    int take() {
        return output.isEmpty() ? 0 : output.removeFirst();
    }

    int run(int n) {
        if (status != 1) {
            return status == 0 ? -1 : status;
        }
        int outcome = 1;
        for (int left = Math.min(n, 256); left > 0 && outcome == 1; left--) {
            outcome = step();
        }
        return outcome;
    }

    private int step() {
        int op = program.get(pc)[0];
        int a = program.get(pc)[1];
        String[] sides = EFFECTS[op].split("--", -1);
        int outcome = hindrance(op, sides[0].length(), sides[1].length());
        if (outcome >= 3) {
            status = outcome <= 6 ? outcome : 1;
            return outcome;
        }
        if (op == 0) {
            status = 2;
            return 2;
        }
        int base = stack.size() - sides[0].length();
        List<Integer> items = new ArrayList<>(stack.subList(base, stack.size()));
        stack.subList(base, stack.size()).clear();
        for (char name : sides[1].toCharArray()) {
            stack.add(switch (name) {
                case 'a' -> a;
                case 'v' -> input.removeFirst();
                case 'r' -> result(op, items, a);
                default -> items.get(sides[0].indexOf(name));
            });
        }
        if (op == 16) {
            output.addLast(items.get(0));
        }
        move(op, a, items);
        return 1;
    }

    private int hindrance(int op, int before, int after) {
        int size = stack.size();
        return size < before ? 3
            : size + after - before > stackCells ? 4
            : op == 19 && returns.size() == returnCells ? 6
            : op == 20 && returns.isEmpty() ? 5
            : op == 15 && input.isEmpty() ? 7
            : op == 16 && output.size() == queueCells ? 8 : 1;
    }

    private static int result(int op, List<Integer> items, int a) {
        long x = items.get(0);
        long y = items.get(items.size() - 1);
        return (int) switch (op) {
            case 9 -> x + a;
            case 10 -> x + y;
            case 11 -> x - y;
            case 12 -> x * y;
            case 13 -> x ^ y;
            default -> x < y ? 1 : 0;
        };
    }

    private void move(int op, int a, List<Integer> items) {
        int from = pc;
        pc = switch (op) {
            case 17, 19 -> a;
            case 18 -> items.get(0) == 0 ? a : from + 1;
            case 20 -> returns.remove(returns.size() - 1);
            default -> from + 1;
        };
        if (op == 19) {
            returns.add(from + 1);
        }
    }

    private List<Integer> entries(int area) {
        List<Integer> found = new ArrayList<>();
        switch (area) {
            case 0, 1 -> {
                for (int v : area == 0 ? stack : returns) {
                    found.add(0, v);
                }
            }
            case 2 -> found.addAll(input);
            case 3 -> found.addAll(output);
            case 4, 5 -> {
                for (int[] instruction : program) {
                    found.add(instruction[area - 4]);
                }
            }
            default -> {
            }
        }
        return found;
    }

    int count(int area) {
        return entries(area).size();
    }

    int view(int area, int i) {
        List<Integer> found = entries(area);
        return i < 0 || i >= found.size() ? 0 : found.get(i);
    }

    /** The same text as Checks.state gives for a StackCacher in the same state. */
    String state() {
        StringBuilder text = new StringBuilder("status " + status + " pc " + pc);
        for (int area = 0; area <= 5; area++) {
            text.append(" ").append(entries(area).toString().replace(",", ""));
        }
        return text.toString();
    }
}
