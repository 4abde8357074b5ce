/** Promises 8 and 9: pile, character. */
public final class PilesTest {
    public static void main(String[] args) {
        properties();
        wrongProperties();
        characters();
        wrongCharacters();
        Check.end();
    }

    private static ElectionTabulator some() {
        return Check.election(8, 1, "7:ca;10:hgfedcba;0:b;99:abc;");
    }

    private static void properties() {
        ElectionTabulator x = some();
        int[] sizes = {7, 10, 0, 99};
        int[][] rankings = {{2, 0}, {7, 6, 5, 4, 3, 2, 1, 0}, {1}, {0, 1, 2}};
        for (int p = 0; p < 4; p++) {
            Check.is("size of " + p, x.pile(p, 0), sizes[p]);
            Check.is("length of " + p, x.pile(p, 1), rankings[p].length);
            for (int k = 0; k < rankings[p].length; k++) {
                Check.is("place " + k + " of " + p, x.pile(p, 10 + k), rankings[p][k]);
            }
        }
    }

    private static void wrongProperties() {
        ElectionTabulator x = some();
        for (int p : new int[] {-1, 4, 24, Integer.MAX_VALUE, Integer.MIN_VALUE}) {
            Check.refuses(x, "pile(" + p + ", 0)", IndexOutOfBoundsException.class, () -> x.pile(p, 0));
            Check.refuses(x, "pile(" + p + ", 2)", IndexOutOfBoundsException.class, () -> x.pile(p, 2));
        }
        int least = Integer.MIN_VALUE;
        for (int what : new int[] {-1, 2, 9, 12, 17, 18, Integer.MAX_VALUE, least, least + 10}) {
            Check.refuses(x, "pile(0, " + what + ")", IllegalArgumentException.class, () -> x.pile(0, what));
        }
        Check.refuses(x, "pile(1, 18)", IllegalArgumentException.class, () -> x.pile(1, 18));
        Check.outOfBounds("pile of a new object", () -> new ElectionTabulator().pile(0, 0));
    }

    private static void characters() {
        ElectionTabulator x = some();
        String[] texts = {"7:ca;", "10:hgfedcba;", "0:b;", "99:abc;"};
        for (int p = 0; p < 4; p++) {
            Check.is("length of " + p, x.character(p, -1), texts[p].length());
            Check.isText("text of " + p, Check.textOf(x, p), texts[p]);
        }
        Check.read(x, "#0=12;~3:h;");
        Check.isText("text of 0", Check.textOf(x, 0), "12:ca;");
        Check.isText("text of 3", Check.textOf(x, 3), "99:h;");
    }

    private static void wrongCharacters() {
        ElectionTabulator x = some();
        int[][] wrong = {{-1, -1}, {4, -1}, {4, 0}, {0, 5}, {0, -2}, {1, 12}, {2, 4}, {0, Integer.MAX_VALUE},
            {0, Integer.MIN_VALUE}, {Integer.MIN_VALUE, 0}, {Integer.MAX_VALUE, 0}};
        for (int[] w : wrong) {
            Check.refuses(x, "character(" + w[0] + ", " + w[1] + ")", IndexOutOfBoundsException.class,
                () -> x.character(w[0], w[1]));
        }
    }
}
