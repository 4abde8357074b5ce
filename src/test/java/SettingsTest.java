/** Promises 6 and 7: set, withdraw. */
public final class SettingsTest {
    public static void main(String[] args) {
        setting();
        wrongSettings();
        withdrawing();
        withdrawnCandidates();
        Check.end();
    }

    private static void setting() {
        int[][] values = {{0, 1, 2, 3}, {0, 1}, {0, 1}, {1, 2, 3, 4, 5, 6, 7}};
        ElectionTabulator x = new ElectionTabulator();
        for (int what = 0; what < 4; what++) {
            int previous = what == 3 ? 1 : 0;
            for (int value : values[what]) {
                Check.is("set(" + what + ", " + value + ")", x.set(what, value), previous);
                Check.is("count", x.count(10 + what), value);
                previous = value;
            }
        }
        Check.is("rule of quotas", x.count(10), 3);
        Check.is("rule of transfers", x.count(11), 1);
        Check.is("rule of ties", x.count(12), 1);
        Check.is("seats", x.count(13), 7);
        Check.is("all three are elected", x.count(3), 3);
        x.set(3, 2);
        Check.is("two are elected", x.count(3), 2);
    }

    private static void wrongSettings() {
        ElectionTabulator x = Check.election(3, 2, "3:ab;2:c;");
        x.set(0, 2);
        int[][] wrong = {{-1, 0}, {4, 1}, {10, 1}, {0, -1}, {0, 4}, {1, -1}, {1, 2}, {2, -1}, {2, 2}, {3, 0}, {3, 8},
            {3, -1}, {Integer.MIN_VALUE, 1}, {Integer.MAX_VALUE, 1}, {0, Integer.MAX_VALUE}, {3, Integer.MIN_VALUE}};
        for (int[] w : wrong) {
            Check.refuses(x, "set(" + w[0] + ", " + w[1] + ")", IllegalArgumentException.class,
                () -> x.set(w[0], w[1]));
        }
    }

    private static void withdrawing() {
        ElectionTabulator x = Check.election(4, 1, "3:ab;2:c;");
        Check.is("withdraw(0)", x.withdraw(0) ? 1 : 0, 1);
        Check.is("withdraw(3)", x.withdraw(3) ? 1 : 0, 1);
        Check.is("withdrawn", x.count(4), 2);
        Check.is("withdraw(0) again", x.withdraw(0) ? 1 : 0, 0);
        Check.is("withdrawn", x.count(4), 1);
        for (int c : new int[] {-1, 4, 8, 32, Integer.MAX_VALUE, Integer.MIN_VALUE}) {
            Check.refuses(x, "withdraw(" + c + ")", IndexOutOfBoundsException.class, () -> x.withdraw(c) ? 1 : 0);
        }
    }

    private static void withdrawnCandidates() {
        ElectionTabulator x = Check.election(3, 1, "5:ab;2:ac;4:a;3:c;");
        x.withdraw(0);
        Check.is("the pile is with the next one", x.where(0, 0, 0), 1);
        Check.is("exhausted from the beginning", x.where(0, 2, 0), -1);
        Check.is("exhausted units", x.round(0, 1), 40000);
        Check.is("votes of the withdrawn one", x.votes(0, 0), 0);
        Check.is("votes of b", x.votes(0, 1), 50000);
        Check.is("votes of c", x.votes(0, 2), 50000);
        Check.is("status", x.candidate(0, 0), 3);
        Check.is("round", x.candidate(0, 1), -1);
        Check.is("place", x.candidate(0, 2), -1);
        Check.is("reason", x.candidate(0, 3), 0);
        Check.is("votes at last", x.candidate(0, 5), 0);
        x.withdraw(1);
        x.withdraw(2);
        Check.is("rounds with nobody", x.rounds(), 1);
        Check.is("elected", x.count(3), 0);
        Check.is("all exhausted", x.round(0, 1), 140000);
        Check.is("what happened", x.round(0, 3), 0);
        Check.is("set of the elected", x.round(0, 6), 0);
        x.withdraw(1);
        Check.is("the only one is elected", x.elected(0), 1);
        ElectionTabulator y = Check.election(3, 1, "3:a;1:b;");
        Check.is("hopeful in the end", y.candidate(1, 0), 0);
        y.withdraw(1);
        Check.is("votes of one that was hopeful", y.votes(0, 1), 0);
        Check.is("exhausted units", y.round(0, 1), 10000);
    }
}
