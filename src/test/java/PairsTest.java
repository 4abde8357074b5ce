/** Promises 17, 18 and 19: preferring, beatsAll, points. */
public final class PairsTest {
    public static void main(String[] args) {
        preferring();
        beatsAll();
        points();
        wrongCandidates();
        Check.end();
    }

    private static void preferring() {
        ElectionTabulator x = Check.election(4, 2, "9:abc;3:ba;4:cd;2:d;1:bd;");
        int[][] due = {{0, 9, 12, 12}, {4, 0, 13, 13}, {4, 4, 0, 13}, {7, 6, 3, 0}};
        for (int c = 0; c < 4; c++) {
            for (int other = 0; other < 4; other++) {
                Check.is("preferring(" + c + ", " + other + ")", x.preferring(c, other), due[c][other]);
            }
        }
        x.withdraw(1);
        Check.is("withdrawn or not", x.preferring(1, 2), 13);
        Check.is("to a withdrawn one", x.preferring(0, 1), 9);
        Check.read(x, "#0=0;");
        Check.is("without papers", x.preferring(0, 1), 0);
        Check.read(x, "7:ab;");
        Check.is("with one pile more", x.preferring(0, 1), 7);
        x.undo();
        Check.is("without that pile", x.preferring(0, 1), 0);
    }

    private static void beatsAll() {
        ElectionTabulator x = Check.election(4, 2, "9:abc;3:ba;4:cd;2:d;1:bd;");
        Check.is("beatsAll", x.beatsAll(), 0);
        x.withdraw(0);
        Check.is("without a", x.beatsAll(), 1);
        x.withdraw(1);
        Check.is("c and d", x.beatsAll(), 2);
        x.withdraw(2);
        Check.is("the only one", x.beatsAll(), 3);
        x.withdraw(3);
        Check.is("nobody", x.beatsAll(), -1);
        ElectionTabulator circle = Check.election(3, 1, "2:abc;2:bca;2:cab;");
        Check.is("a circle", circle.beatsAll(), -1);
        ElectionTabulator even = Check.election(2, 1, "2:a;2:b;");
        Check.is("as many both ways", even.beatsAll(), -1);
        ElectionTabulator none = new ElectionTabulator();
        Check.is("without papers", none.beatsAll(), -1);
        none.withdraw(0);
        none.withdraw(2);
        Check.is("the only one, without papers", none.beatsAll(), 1);
        Check.read(even, "#1=3;");
        Check.is("one more", even.beatsAll(), 1);
    }

    private static void points() {
        ElectionTabulator x = Check.election(4, 2, "9:abc;3:ba;4:cd;2:d;1:bd;");
        int[] due = {33, 30, 21, 16};
        for (int c = 0; c < 4; c++) {
            Check.is("points(" + c + ")", x.points(c), due[c]);
        }
        x.withdraw(1);
        Check.is("points with a withdrawn one", x.points(0), 33);
        Check.is("points of a withdrawn one", x.points(1), 30);
        ElectionTabulator y = Check.election(8, 1, "99:habcdefg;");
        Check.is("first of eight", y.points(7), 693);
        Check.is("last of eight", y.points(6), 0);
    }

    private static void wrongCandidates() {
        ElectionTabulator x = Check.election(4, 2, "9:abc;3:ba;4:cd;2:d;1:bd;");
        for (int wrong : new int[] {-1, 4, 7, 8, Integer.MAX_VALUE, Integer.MIN_VALUE}) {
            Check.refuses(x, "preferring(" + wrong + ", 0)", IndexOutOfBoundsException.class,
                () -> x.preferring(wrong, 0));
            Check.refuses(x, "preferring(0, " + wrong + ")", IndexOutOfBoundsException.class,
                () -> x.preferring(0, wrong));
            Check.refuses(x, "points(" + wrong + ")", IndexOutOfBoundsException.class, () -> x.points(wrong));
        }
    }
}
