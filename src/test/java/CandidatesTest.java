import java.util.NoSuchElementException;

/** Promises 13 and 14: candidate, elected; with the ties that give the reasons. */
public final class CandidatesTest {
    public static void main(String[] args) {
        fates();
        lots();
        tieOfExclusionByLatestRound();
        tieOfExclusionByEarliestRound();
        tieNarrowedTwice();
        tieOfElection();
        tieOfTransfer();
        wrongNumbers();
        Check.end();
    }

    private static void fates() {
        ElectionTabulator x = Check.election(4, 2, "9:abc;3:ba;4:cd;2:d;1:bd;");
        Check.fate(x, 0, 1, 0, 0, 1, -1, 70000);
        Check.fate(x, 1, 1, 3, 1, 2, -1, 59998);
        Check.fate(x, 2, 2, 2, -1, 3, -1, 0);
        Check.fate(x, 3, 2, 1, -1, 3, -1, 0);
        Check.order(x, 0, 1);
        x.set(3, 1);
        x.withdraw(3);
        Check.fate(x, 0, 1, 2, 0, 1, -1, 120000);
        Check.fate(x, 1, 2, 1, -1, 3, -1, 0);
        Check.fate(x, 2, 2, 0, -1, 5, -1, 0);
        Check.fate(x, 3, 3, -1, -1, 0, -1, 0);
    }

    private static void lots() {
        ElectionTabulator x = Check.election(4, 2, "2:a;2:b;2:c;2:d;");
        Check.fate(x, 3, 2, 0, -1, 5, -1, 0);
        Check.fate(x, 2, 2, 1, -1, 5, -1, 0);
        Check.order(x, 0, 1);
        Check.read(x, "!cdab;");
        Check.fate(x, 1, 2, 0, -1, 5, -1, 0);
        Check.fate(x, 0, 2, 1, -1, 5, -1, 0);
        Check.order(x, 2, 3);
        ElectionTabulator y = Check.election(3, 1, "3:a;1:b;1:c;!cab;");
        Check.fate(y, 0, 1, 0, 0, 1, -1, 30000);
        ElectionTabulator z = withoutQuota(3, "2:a;1:b;1:c;1:c;!cba;");
        Check.fate(z, 1, 2, 0, -1, 3, -1, 0);
        Check.fate(z, 0, 2, 1, -1, 5, -1, 0);
        Check.order(z, 2);
    }

    private static void votes(ElectionTabulator x, int first, int[][] papers) {
        for (int r = 0; r < papers.length; r++) {
            for (int i = 0; i < papers[r].length; i++) {
                Check.is("votes(" + r + ", " + (first + i) + ")", x.votes(r, first + i), 10000 * papers[r][i]);
            }
        }
    }

    /** The quota is the number of all papers, so that nobody is elected while others are hopeful. */
    private static ElectionTabulator withoutQuota(int candidates, String... texts) {
        ElectionTabulator x = Check.election(candidates, 1, texts);
        x.set(0, 1);
        return x;
    }

    private static void tieOfExclusionByLatestRound() {
        ElectionTabulator x = withoutQuota(5, "17:a;3:b;3:c;1:db;1:ec;!abced;");
        votes(x, 1, new int[][] {{3, 3, 1, 1}, {4, 3, 0, 1}, {4, 4, 0, 0}});
        Check.fate(x, 3, 2, 0, -1, 5, -1, 0);
        Check.fate(x, 4, 2, 1, -1, 3, -1, 0);
        Check.fate(x, 2, 2, 2, -1, 4, 1, 0);
        Check.fate(x, 1, 2, 3, -1, 3, -1, 0);
        Check.read(x, "!abcde;");
        votes(x, 1, new int[][] {{3, 3, 1, 1}, {3, 4, 1, 0}, {4, 4, 0, 0}});
        Check.fate(x, 4, 2, 0, -1, 5, -1, 0);
        Check.fate(x, 1, 2, 2, -1, 4, 1, 0);
    }

    private static void tieOfExclusionByEarliestRound() {
        ElectionTabulator x = withoutQuota(6, "40:a;5:b;4:c;1:dc;2:ec;2:fb;");
        votes(x, 1, new int[][] {{5, 4, 1, 2, 2}, {5, 5, 0, 2, 2}, {7, 5, 0, 2, 0}, {7, 7, 0, 0, 0}});
        Check.fate(x, 2, 2, 3, -1, 4, 2, 0);
        x.set(2, 1);
        Check.fate(x, 2, 2, 3, -1, 4, 0, 0);
        // With e before f the latest round speaks against b, the earliest one still against c.
        Check.read(x, "!abcdfe;");
        votes(x, 1, new int[][] {{5, 4, 1, 2, 2}, {5, 5, 0, 2, 2}, {5, 7, 0, 0, 2}, {7, 7, 0, 0, 0}});
        Check.fate(x, 2, 2, 3, -1, 4, 0, 0);
        x.set(2, 0);
        Check.fate(x, 1, 2, 3, -1, 4, 2, 0);
    }

    private static void tieNarrowedTwice() {
        // Round 1 leaves b and c of the three, and round 0 leaves c.
        ElectionTabulator x = withoutQuota(6, "60:a;5:b;4:c;8:d;1:eb;2:ec;2:fbc;2:fcb;");
        votes(x, 1, new int[][] {{5, 4, 8, 3, 4}, {6, 6, 8, 0, 4}, {8, 8, 8, 0, 0}});
        Check.fate(x, 2, 2, 2, -1, 4, 0, 0);
        // Round 1 leaves b and c, which are equal in round 0 too.
        Check.read(x, "#2=5;#5=1;");
        votes(x, 1, new int[][] {{5, 5, 8, 2, 4}, {6, 6, 8, 0, 4}, {8, 8, 8, 0, 0}});
        Check.fate(x, 2, 2, 2, -1, 5, -1, 0);
        Check.read(x, "!dcbaef;");
        Check.fate(x, 1, 2, 2, -1, 5, -1, 0);
        x.set(2, 1);
        Check.fate(x, 1, 2, 2, -1, 5, -1, 0);
        earliestFirstNarrowedTwice();
    }

    /** Earliest first, round 0 leaves c and d of the three, and round 1, not round 2, leaves d. */
    private static void earliestFirstNarrowedTwice() {
        ElectionTabulator x = withoutQuota(7, "60:a;6:b;4:c;4:d;1:ec;2:fd;3:gd;3:gc;2:gb;");
        Check.read(x, "#7=2;#8=2;");
        votes(x, 1, new int[][] {{6, 4, 4, 1, 2, 7}, {6, 5, 4, 0, 2, 7}, {6, 5, 6, 0, 0, 7}});
        Check.fate(x, 2, 2, 2, -1, 3, -1, 0);
        Check.read(x, "#1=7;#6=1;#7=2;#8=0;");
        votes(x, 1, new int[][] {{7, 4, 4, 1, 2, 3}, {7, 5, 4, 0, 2, 3}, {7, 5, 6, 0, 0, 3}, {7, 7, 7, 0, 0, 0}});
        Check.fate(x, 2, 2, 3, -1, 4, 2, 0);
        x.set(2, 1);
        Check.fate(x, 3, 2, 3, -1, 4, 1, 0);
    }

    private static void tieOfElection() {
        ElectionTabulator x = Check.election(4, 2, "4:a;4:b;3:c;1:db;2:dc;!acbd;");
        Check.fate(x, 3, 2, 0, -1, 5, -1, 0);
        // Both have the quota in round 1; b had more in round 0.
        Check.fate(x, 1, 1, 1, 0, 1, -1, 50000);
        Check.fate(x, 2, 1, 1, 1, 1, -1, 50000);
        ElectionTabulator z = Check.election(5, 2, "5:b;4:c;1:dc;2:e;3:a;!aecbd;");
        // Without the quota both are elected as the last ones; b had more in round 0.
        Check.order(z, 1, 2);
        Check.is("reason", z.candidate(1, 3), 2);
        Check.read(z, "#0=4;#1=4;#2=0;");
        Check.order(z, 2, 1);
        Check.read(z, "!aebcd;");
        Check.order(z, 1, 2);
    }

    private static void tieOfTransfer() {
        ElectionTabulator x = Check.election(4, 3, "6:ac;6:bd;1:c;1:d;");
        Check.is("quota", x.round(0, 0), 40000);
        Check.is("first transfer", x.round(0, 4), 0);
        Check.order(x, 0, 1, 2);
        Check.read(x, "!dbca;");
        Check.is("first transfer", x.round(0, 4), 1);
        Check.is("second transfer", x.round(1, 4), 0);
        Check.order(x, 1, 0, 3);
        ElectionTabulator y = Check.election(5, 3, "18:b;17:c;4:db;5:dc;16:a;17:e;!acbed;");
        // b and c have 22 papers each in round 1, two more than the quota; b had more in round 0.
        Check.is("quota", y.round(1, 0), 200000);
        Check.is("first transfer", y.round(1, 4), 1);
        Check.is("second transfer", y.round(2, 4), 2);
    }

    private static void wrongNumbers() {
        ElectionTabulator x = Check.election(4, 2, "9:abc;3:ba;4:cd;2:d;1:bd;");
        for (int wrong : new int[] {-1, 4, 8, Integer.MAX_VALUE, Integer.MIN_VALUE}) {
            Check.refuses(x, "candidate(" + wrong + ", 0)", IndexOutOfBoundsException.class,
                () -> x.candidate(wrong, 0));
            Check.refuses(x, "candidate(" + wrong + ", 6)", IndexOutOfBoundsException.class,
                () -> x.candidate(wrong, 6));
        }
        for (int wrong : new int[] {-1, 6, 10, Integer.MAX_VALUE, Integer.MIN_VALUE}) {
            Check.refuses(x, "candidate(0, " + wrong + ")", IllegalArgumentException.class,
                () -> x.candidate(0, wrong));
        }
        for (int wrong : new int[] {-1, 2, 8, Integer.MAX_VALUE, Integer.MIN_VALUE}) {
            Check.refuses(x, "elected(" + wrong + ")", NoSuchElementException.class, () -> x.elected(wrong));
        }
        x.withdraw(0);
        x.withdraw(1);
        x.withdraw(2);
        x.withdraw(3);
        Check.refuses(x, "elected(0) of nobody", NoSuchElementException.class, () -> x.elected(0));
    }
}
