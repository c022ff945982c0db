/** The quorums that the document allows, worked out by hand. */
final class Quorums {
    /** N, Q and F of every pair that is kept. */
    static final int[][] ALLOWED = {
        {3, 2, 3}, {3, 3, 2}, {3, 3, 3},
        {4, 3, 3}, {4, 3, 4}, {4, 4, 3}, {4, 4, 4},
        {5, 3, 4}, {5, 3, 5}, {5, 4, 4}, {5, 4, 5}, {5, 5, 3}, {5, 5, 4}, {5, 5, 5},
    };
    /** N, Q and F where the pair that was asked for is not kept. */
    static final int[][] OTHERWISE = {{3, 2, 3}, {4, 3, 3}, {5, 3, 4}};

    private Quorums() {
    }

    static boolean allowed(int n, int q, int f) {
        for (int[] row : ALLOWED) {
            if (row[0] == n && row[1] == q && row[2] == f) {
                return true;
            }
        }
        return false;
    }

    static String told(int[] row) {
        return "N " + row[0] + ", Q " + row[1] + ", F " + row[2];
    }
}
