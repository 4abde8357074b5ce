/** Promise 26: count. */
public final class CountTest {
    public static void main(String[] args) {
        counts();
        wrongCounts();
        Check.end();
    }

    private static void counts() {
        ElectionTabulator x = Check.election(5, 2, "9:abc;30:ba;!edabc;");
        x.set(0, 2);
        x.set(1, 1);
        x.set(2, 1);
        x.withdraw(4);
        Check.type(x, "1:abc");
        int[][] due = {{0, 5}, {1, 2}, {2, 39}, {3, 2}, {4, 1}, {5, 5}, {6, 5}, {10, 2}, {11, 1}, {12, 1}, {13, 2},
            {20, 4}, {21, 3}, {22, 0}, {23, 1}, {24, 2}};
        for (int[] d : due) {
            Check.is("count(" + d[0] + ")", x.count(d[0]), d[1]);
        }
        x.begin(8, 7);
        Check.is("count(27)", x.count(27), 7);
        Check.is("count(3) of seven seats", x.count(3), 7);
    }

    private static void wrongCounts() {
        ElectionTabulator x = Check.election(5, 2, "9:abc;30:ba;");
        for (int what : new int[] {-1, 7, 8, 9, 14, 15, 19, 25, 27, 28, Integer.MAX_VALUE, Integer.MIN_VALUE}) {
            Check.refuses(x, "count(" + what + ")", IllegalArgumentException.class, () -> x.count(what));
        }
    }
}
