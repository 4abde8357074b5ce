/** The bounds of promises 6 to 9: set, withdraw, pile, character. */
public final class BoundsPilesTest {
    private static final int LEAST = Integer.MIN_VALUE;
    private static final int GREATEST = Integer.MAX_VALUE;
    private static final int[] FIRST_VALUE = {0, 0, 0, 1};
    private static final int[] LAST_VALUE = {3, 1, 1, 7};

    public static void main(String[] args) {
        settings();
        valuesOfSettings();
        previousValue();
        refusedSet();
        withdrawnAndNotWithdrawnAnyMore();
        withdrawnThen();
        refusedWithdraw();
        propertiesOfPiles();
        noSuchPile();
        noSuchProperty();
        textOfPiles();
        lengthOfTheText();
        noSuchCharacter();
        Check.end();
    }

    /** Promise 6: "Sets a rule, or the number of seats." */
    private static void settings() {
        for (int what = 0; what < 4; what++) {
            ElectionTabulator x = Twins.rich();
            x.set(what, FIRST_VALUE[what]);
            x.set(what, LAST_VALUE[what]);
            for (int other = 0; other < 4; other++) {
                int due = other == what ? LAST_VALUE[other] : Twins.rich().count(10 + other);
                Check.is("setting " + other + " after set of " + what, x.count(10 + other), due);
            }
        }
    }

    /**
     * Promise 6: "- `what`: 0 for the rule of quotas, 0 to 3; 1 for the rule of transfers, 0 or 1; 2 for the rule of
     * ties, 0 or 1; 3 for the number of seats, 1 to 7"
     */
    private static void valuesOfSettings() {
        for (int what = -2; what <= 5; what++) {
            for (int value = -2; value <= 9; value++) {
                boolean isWhat = what >= 0 && what <= 3;
                int number = what;
                int given = value;
                if (isWhat && value >= FIRST_VALUE[what] && value <= LAST_VALUE[what]) {
                    ElectionTabulator x = new ElectionTabulator();
                    Check.is("set(" + what + ", " + value + ")", x.set(what, value), what == 3 ? 1 : 0);
                    Check.is("count(" + (10 + what) + ")", x.count(10 + what), value);
                    Check.is("calls to undo", x.count(5), 1);
                } else {
                    Twins.refuse("set(" + what + ", " + value + ")", IllegalArgumentException.class, Twins::rich,
                        x -> x.set(number, given));
                }
            }
        }
    }

    /** Promise 6: "Returns the previous value." */
    private static void previousValue() {
        for (int what = 0; what < 4; what++) {
            ElectionTabulator x = new ElectionTabulator();
            x.set(what, LAST_VALUE[what]);
            Check.is("the last value before", x.set(what, FIRST_VALUE[what]), LAST_VALUE[what]);
            Check.is("the first value before", x.set(what, FIRST_VALUE[what]), FIRST_VALUE[what]);
            Check.is("the same value before", x.set(what, LAST_VALUE[what]), FIRST_VALUE[what]);
            x.undo();
            Check.is("the value before, after undo", x.set(what, LAST_VALUE[what]), FIRST_VALUE[what]);
        }
        ElectionTabulator x = new ElectionTabulator();
        x.begin(4, 7);
        Check.is("the seats of begin", x.set(3, 1), 7);
    }

    /** Promise 6: "Throws `IllegalArgumentException` if there is no such what, or the value is out of range" */
    private static void refusedSet() {
        int[][] wrong = {{-1, 0}, {4, 1}, {10, 1}, {LEAST, 0}, {GREATEST, 1}, {0, -1}, {0, 4}, {1, -1}, {1, 2}, {2, -1},
            {2, 2}, {3, 0}, {3, 8}, {0, LEAST}, {0, GREATEST}, {3, LEAST}, {3, GREATEST}, {4, 8}, {-1, -1}};
        for (int[] w : wrong) {
            Twins.refuse("set(" + w[0] + ", " + w[1] + ")", IllegalArgumentException.class, Twins::rich,
                x -> x.set(w[0], w[1]));
        }
    }

    /** Promise 7: "Makes a candidate withdrawn, or not withdrawn any more." */
    private static void withdrawnAndNotWithdrawnAnyMore() {
        for (int candidates = 2; candidates <= 8; candidates++) {
            for (int c = 0; c < candidates; c++) {
                ElectionTabulator x = Check.election(candidates, 7);
                x.withdraw(c);
                Check.is("the number of withdrawn", x.count(4), 1);
                for (int other = 0; other < candidates; other++) {
                    Check.is("status of " + other, x.candidate(other, 0) == 3 ? 1 : 0, other == c ? 1 : 0);
                }
                x.withdraw(c);
                Check.is("the number of withdrawn", x.count(4), 0);
                Check.is("status of " + c, x.candidate(c, 0) == 3 ? 1 : 0, 0);
            }
        }
    }

    /** Promise 7: "Returns whether it is withdrawn then." */
    private static void withdrawnThen() {
        ElectionTabulator x = Check.election(8, 1);
        for (int c = 0; c < 8; c++) {
            Check.is("withdraw(" + c + ")", x.withdraw(c) ? 1 : 0, 1);
        }
        for (int c = 0; c < 8; c++) {
            Check.is("withdraw(" + c + ") again", x.withdraw(c) ? 1 : 0, 0);
        }
        Check.is("withdraw(7) once more", x.withdraw(7) ? 1 : 0, 1);
        x.undo();
        Check.is("withdraw(7) after undo", x.withdraw(7) ? 1 : 0, 1);
        x.begin(8, 1);
        Check.is("withdraw(7) after begin", x.withdraw(7) ? 1 : 0, 1);
    }

    /** Promise 7: "Throws `IndexOutOfBoundsException` if there is no such candidate" */
    private static void refusedWithdraw() {
        for (int candidates = 2; candidates <= 8; candidates++) {
            ElectionTabulator x = Check.election(candidates, 1);
            int one = candidates;
            Check.outOfBounds("withdraw of one more", () -> x.withdraw(one) ? 1 : 0);
            Check.outOfBounds("withdraw(-1)", () -> x.withdraw(-1) ? 1 : 0);
            Check.is("nobody is withdrawn", x.count(4), 0);
            Check.is("calls to undo", x.count(5), 0);
            Check.is("withdraw of the last one", x.withdraw(one - 1) ? 1 : 0, 1);
        }
        for (int wrong : new int[] {-1, 4, 7, 8, 32, 33, LEAST, GREATEST}) {
            Twins.refuse("withdraw(" + wrong + ")", IndexOutOfBoundsException.class, Twins::rich,
                x -> x.withdraw(wrong) ? 1 : 0);
        }
    }

    /**
     * Promise 8: "- `what`: 0 for its size, 1 for the length of its ranking, 10 + k for the candidate at place k of its
     * ranking, from 0"
     */
    private static void propertiesOfPiles() {
        ElectionTabulator x = Check.election(8, 1, "0:h;99:hgfedcba;10:ah;");
        int[] sizes = {0, 99, 10};
        int[] lengths = {1, 8, 2};
        int[] firsts = {7, 7, 0};
        int[] lasts = {7, 0, 7};
        for (int p = 0; p < 3; p++) {
            Check.is("size of " + p, x.pile(p, 0), sizes[p]);
            Check.is("length of " + p, x.pile(p, 1), lengths[p]);
            Check.is("the first candidate of " + p, x.pile(p, 10), firsts[p]);
            Check.is("the last candidate of " + p, x.pile(p, 9 + lengths[p]), lasts[p]);
        }
    }

    /** Promise 8: "Throws `IndexOutOfBoundsException` if there is no such pile" */
    private static void noSuchPile() {
        ElectionTabulator x = new ElectionTabulator();
        for (int piles = 0; piles <= 24; piles++) {
            int one = piles;
            Check.outOfBounds("pile(" + piles + ", 0)", () -> x.pile(one, 0));
            Check.outOfBounds("pile(-1, 0)", () -> x.pile(-1, 0));
            if (piles < 24) {
                Check.read(x, "1:a;");
                Check.is("the last pile", x.pile(piles, 0), 1);
            }
        }
        for (int wrong : new int[] {-1, 5, 24, LEAST, GREATEST}) {
            Twins.refuse("pile(" + wrong + ", 0)", IndexOutOfBoundsException.class, Twins::rich, y -> y.pile(wrong, 0));
            Twins.refuse("pile(" + wrong + ", 2)", IndexOutOfBoundsException.class, Twins::rich, y -> y.pile(wrong, 2));
        }
        x.undo();
        Check.outOfBounds("the last pile after undo", () -> x.pile(23, 0));
        x.begin(3, 1);
        Check.outOfBounds("the first pile after begin", () -> x.pile(0, 0));
    }

    /** Promise 8: "Throws `IllegalArgumentException` if there is no such what, or no such place in its ranking" */
    private static void noSuchProperty() {
        String ranking = "hgfedcba";
        for (int length = 1; length <= 8; length++) {
            ElectionTabulator x = Check.election(8, 1, "1:hgfedcba;", "~0:" + ranking.substring(0, length) + ";");
            Check.is("the last place", x.pile(0, 9 + length), 8 - length);
            int last = 9 + length;
            for (int wrong : new int[] {last + 1, 18, 9, 2, -1, LEAST, LEAST + 9, GREATEST}) {
                Check.illegalArgument("pile(0, " + wrong + ")", () -> x.pile(0, wrong));
            }
        }
        for (int wrong : new int[] {-1, 2, 3, 8, 9, 13, 17, 18, LEAST, LEAST + 10, GREATEST}) {
            Twins.refuse("pile(0, " + wrong + ")", IllegalArgumentException.class, Twins::rich, x -> x.pile(0, wrong));
        }
    }

    /** Promise 9: "Returns a character of a pile as a text, in the form in which it is added by a command." */
    private static void textOfPiles() {
        ElectionTabulator x = Check.election(8, 1);
        String[] texts = {"0:a;", "9:h;", "10:ab;", "99:hgfedcba;", "1:bcdefgha;", "90:c;"};
        for (int p = 0; p < texts.length; p++) {
            Check.read(x, texts[p]);
            Check.isText("pile " + p, Check.textOf(x, p), texts[p]);
        }
        Check.read(x, "#0=10;#2=9;#3=0;~1:hgfedcba;~4:a;");
        Check.isText("one digit became two", Check.textOf(x, 0), "10:a;");
        Check.isText("two digits became one", Check.textOf(x, 2), "9:ab;");
        Check.isText("two digits became 0", Check.textOf(x, 3), "0:hgfedcba;");
        Check.isText("a longer ranking", Check.textOf(x, 1), "9:hgfedcba;");
        Check.isText("a shorter ranking", Check.textOf(x, 4), "1:a;");
        ElectionTabulator again = Check.election(8, 1, Check.textOf(x, 1));
        Check.isText("the text adds the same pile", Check.textOf(again, 0), Check.textOf(x, 1));
    }

    /** Promise 9: "- `index`: the index of the character, or -1 for the length" */
    private static void lengthOfTheText() {
        String ranking = "abcdefgh";
        for (int length = 1; length <= 8; length++) {
            String letters = ranking.substring(0, length);
            ElectionTabulator x = Check.election(8, 1, "0:" + letters + ";9:" + letters + ";", "10:" + letters + ";99:"
                + letters + ";");
            for (int p = 0; p < 4; p++) {
                int due = length + (p < 2 ? 3 : 4);
                Check.is("the length", x.character(p, -1), due);
                Check.is("the first character", x.character(p, 0), "0919".charAt(p));
                Check.is("the first letter", x.character(p, due - length - 1), 'a');
                Check.is("the last letter", x.character(p, due - 2), 'a' + length - 1);
                Check.is("the last character", x.character(p, due - 1), ';');
            }
        }
    }

    /**
     * Promise 9: "Throws `IndexOutOfBoundsException` if there is no such pile, or index is neither -1 nor an index of
     * the text"
     */
    private static void noSuchCharacter() {
        ElectionTabulator x = Check.election(8, 1, "9:a;10:a;9:abcdefgh;99:abcdefgh;");
        int[] lengths = {4, 5, 11, 12};
        for (int p = 0; p < 4; p++) {
            int pile = p;
            Check.is("the last one", x.character(p, lengths[p] - 1), ';');
            for (int wrong : new int[] {lengths[p], lengths[p] + 1, -2, LEAST, GREATEST}) {
                Check.outOfBounds("character(" + p + ", " + wrong + ")", () -> x.character(pile, wrong));
            }
        }
        for (int wrong : new int[] {-1, 4, 24, LEAST, GREATEST}) {
            Check.outOfBounds("character of pile " + wrong, () -> x.character(wrong, 0));
            Check.outOfBounds("length of pile " + wrong, () -> x.character(wrong, -1));
        }
        Twins.refuse("character(0, 6)", IndexOutOfBoundsException.class, Twins::rich, y -> y.character(0, 6));
        Twins.refuse("character(0, -2)", IndexOutOfBoundsException.class, Twins::rich, y -> y.character(0, -2));
        Twins.refuse("character(5, -1)", IndexOutOfBoundsException.class, Twins::rich, y -> y.character(5, -1));
    }
}
