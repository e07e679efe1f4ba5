/** Numbers as a caller may write them, each with what its lowest bits say. */
final class LowestBits {
    /** Of a REGISTER or POINT: the lowest two bits. */
    static final int[][] NUMBERS = {
        {0, 0}, {3, 3}, {4, 0}, {5, 1}, {6, 2}, {7, 3}, {8, 0}, {1 << 30 | 2, 2}, {Integer.MAX_VALUE, 3},
        {Integer.MIN_VALUE, 0}, {Integer.MIN_VALUE + 1, 1}, {-1, 3}, {-2, 2}, {-3, 1}, {-4, 0}, {-5, 3}};

    /** Of a WORD: the lowest three bits. */
    static final int[][] WORDS = {
        {0, 0}, {4, 4}, {7, 7}, {8, 0}, {9, 1}, {12, 4}, {15, 7}, {16, 0}, {1 << 30 | 5, 5},
        {Integer.MAX_VALUE, 7}, {Integer.MIN_VALUE, 0}, {Integer.MIN_VALUE + 3, 3}, {-1, 7}, {-4, 4},
        {-7, 1}, {-8, 0}, {-9, 7}};

    private LowestBits() {
    }
}
