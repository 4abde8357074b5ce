/** Promise 22: needed. */
public final class NeededTest {
    public static void main(String[] args) {
        numbers();
        limits();
        withAllPiles();
        nothingChanges();
        wrongCandidates();
        Check.end();
    }

    private static void numbers() {
        ElectionTabulator x = Check.election(4, 2, "9:abc;3:ba;4:cd;2:d;1:bd;");
        Check.is("needed(0)", x.needed(0), 0);
        Check.is("needed(1)", x.needed(1), 0);
        Check.is("needed(2)", x.needed(2), 2);
        Check.is("needed(3)", x.needed(3), 3);
        ElectionTabulator y = Check.election(2, 1, "5:a;3:b;");
        Check.is("needed by b", y.needed(1), 3);
        Check.read(y, "!ba;");
        Check.is("needed by b with the lot", y.needed(1), 2);
        // Not as soon as it would be with more papers only: the least number counts.
        ElectionTabulator z = Check.election(2, 1, "1:b;");
        Check.is("needed by a", z.needed(0), 1);
    }

    private static void limits() {
        ElectionTabulator x = Check.election(2, 1, "61:a;1:b;");
        Check.is("60 with the lot against it", x.needed(1), -1);
        Check.read(x, "#0=60;");
        Check.is("60", x.needed(1), 60);
        Check.read(x, "#0=61;!ba;");
        Check.is("60 with the lot for it", x.needed(1), 60);
        Check.read(x, "#0=62;");
        Check.is("more than 60", x.needed(1), -1);
        x.withdraw(1);
        Check.is("a withdrawn one", x.needed(1), -1);
        x.withdraw(0);
        Check.is("a withdrawn one", x.needed(0), -1);
    }

    private static void withAllPiles() {
        String six = "1:a;1:a;1:a;1:a;1:a;1:a;";
        ElectionTabulator x = Check.election(3, 1, six, six, six, six);
        Check.is("needed(2)", x.needed(2), 25);
        Check.is("piles", x.count(1), 24);
        Check.is("papers", x.count(2), 24);
    }

    private static void nothingChanges() {
        ElectionTabulator x = Check.election(4, 2, "9:abc;3:ba;4:cd;2:d;1:bd;");
        x.declare();
        String before = Check.dump(x);
        x.needed(3);
        x.needed(0);
        Check.isText("the state after needed", Check.dump(x), before);
        Check.is("calls to undo", x.count(5), 1);
    }

    private static void wrongCandidates() {
        ElectionTabulator x = Check.election(4, 2, "9:abc;3:ba;4:cd;2:d;1:bd;");
        for (int wrong : new int[] {-1, 4, 8, Integer.MAX_VALUE, Integer.MIN_VALUE}) {
            Check.refuses(x, "needed(" + wrong + ")", IndexOutOfBoundsException.class, () -> x.needed(wrong));
        }
    }
}
