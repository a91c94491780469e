/** The two number columns of the document's table of instructions, by opcode. */
final class Table {
    static final int[] NEED = {0, 0, 1, 1, 2, 2, 3, 2, 2, 1, 2, 2, 2, 2, 2, 0, 1, 0, 1, 0, 0};
    static final int[] GROWTH = {0, 1, 1, -1, 0, 1, 0, -1, 1, 0, -1, -1, -1, -1, -1, 1, -1, 0, -1, 0, 0};

    private Table() {
    }
}
