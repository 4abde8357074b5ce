/** The bounds of the Description's part Rounds, on which promises 10 to 16 stand. */
public final class BoundsRoundsTest {
    public static void main(String[] args) {
        fourStatuses();
        firstHopefulOfEachRanking();
        votesAreSums();
        totalOfNoPaperAndOfAll();
        numberedFromZero();
        quotaOfRule0();
        quotaOfRule1();
        quotaOfRule2();
        quotaOfRule3();
        atLeastTheQuota();
        asLongAsThereAreFreeSeats();
        mostVotesFirst();
        noSeatIsFree();
        notMoreHopefulThanFreeSeats();
        lastOnesInOrder();
        greaterThanTheQuota();
        surplusIsTransferredOnce();
        mostVotesAreTransferredFirst();
        fewestVotes();
        goesOnWithTheSameWorth();
        nextHopefulCandidate();
        passesElectedAndWithdrawn();
        countsForOneOrTheOther();
        votesBeforeTheStep();
        Check.end();
    }

    private static ElectionTabulator withRule(int rule, ElectionTabulator x) {
        x.set(0, rule);
        return x;
    }

    /** Rounds: "Every candidate is hopeful, elected, excluded, or withdrawn." */
    private static void fourStatuses() {
        ElectionTabulator x = Check.election(4, 1, "3:a;2:b;1:ca;");
        x.withdraw(3);
        Check.fate(x, 0, 1, 1, 0, 1, -1, 40000);
        Check.fate(x, 1, 0, -1, -1, 0, -1, 20000);
        Check.fate(x, 2, 2, 0, -1, 3, -1, 0);
        Check.fate(x, 3, 3, -1, -1, 0, -1, 0);
    }

    /**
     * Rounds: "At first, all that are not withdrawn are hopeful, and each pile is with the first hopeful candidate of
     * its ranking, or exhausted if there is none."
     */
    private static void firstHopefulOfEachRanking() {
        ElectionTabulator x = Check.election(8, 1, "1:abcdefgh;2:h;4:g;8:gfedcba;0:a;", "16:bh;");
        Check.where(x, 0, 0, 10000, 7, 10000, 6, 10000, 6, 10000, 0, 10000, 1, 10000);
        Check.is("exhausted at first", x.round(0, 1), 0);
        for (int c = 0; c < 7; c++) {
            x.withdraw(c);
        }
        Check.where(x, 0, 7, 10000, 7, 10000, -1, 10000, -1, 10000, -1, 10000, 7, 10000);
        Check.is("exhausted at first", x.round(0, 1), 120000);
        Check.is("votes of the only one", x.votes(0, 7), 190000);
        x.withdraw(7);
        Check.where(x, 0, -1, 10000, -1, 10000, -1, 10000, -1, 10000, -1, 10000, -1, 10000);
        Check.is("all are exhausted", x.round(0, 1), 310000);
    }

    /**
     * Rounds: "The votes of a hopeful candidate are the sum of the worth of the papers of the piles that are with it."
     */
    private static void votesAreSums() {
        ElectionTabulator x = Check.election(4, 1, "0:a;5:bc;99:ba;1:b;0:b;1:cb;");
        Check.is("a pile without papers", x.votes(0, 0), 0);
        Check.is("four piles", x.votes(0, 1), 1050000);
        Check.is("one paper", x.votes(0, 2), 10000);
        Check.is("no pile", x.votes(0, 3), 0);
    }

    /** Rounds: "The total is 10000 units for each paper." */
    private static void totalOfNoPaperAndOfAll() {
        int[] numbers = {1, 3, 99, 2376};
        for (int number : numbers) {
            ElectionTabulator x = withPapers(number, 1);
            Check.isFloat("the share of all", x.share(0, 0), 1f);
            Check.is("the votes of all", x.votes(0, 0), 10000 * number);
            Check.is("a quota of the total", withRule(2, x).round(0, 0), 5000 * number + 1);
        }
        ElectionTabulator none = withPapers(0, 1);
        Check.is("a quota of no total", withRule(2, none).round(0, 0), 1);
        Check.fails("the share of no total", ArithmeticException.class, () -> (long) none.share(0, 0));
    }

    /** So many papers for a, one of eight candidates. */
    private static ElectionTabulator withPapers(int papers, int seats) {
        ElectionTabulator x = Check.election(8, seats);
        for (int left = papers; left > 0; left -= 99) {
            Check.read(x, Math.min(99, left) + ":a;");
        }
        Check.is("papers", x.count(2), papers);
        return x;
    }

    /** Rounds: "Rounds are numbered from 0." */
    private static void numberedFromZero() {
        ElectionTabulator x = new ElectionTabulator();
        Check.is("rounds", x.rounds(), 3);
        Check.is("the first round", x.round(0, 3), 2);
        Check.is("the last round", x.round(2, 3), 0);
        Check.outOfBounds("round 3", () -> x.round(3, 3));
        Check.outOfBounds("round -1", () -> x.round(-1, 3));
        Check.is("excluded in the first round", x.candidate(2, 1), 0);
        Check.is("elected in the last round", x.candidate(0, 1), 2);
    }

    /** Papers, seats and quota in each row. */
    private static void quotas(int rule, int[][] rows) {
        for (int[] row : rows) {
            ElectionTabulator x = withRule(rule, withPapers(row[0], row[1]));
            String what = "the quota of " + row[0] + " papers and " + row[1] + " seats by rule " + rule;
            Check.is(what, x.round(0, 0), row[2]);
        }
    }

    /**
     * Rounds: "with rule 0, the number of papers, divided by the number of seats plus 1 and rounded down, plus 1, times
     * 10000"
     */
    private static void quotaOfRule0() {
        quotas(0, new int[][] {{0, 1, 10000}, {0, 7, 10000}, {1, 1, 10000}, {2, 1, 20000}, {3, 1, 20000}, {4, 1, 30000},
            {7, 7, 10000}, {8, 7, 20000}, {15, 7, 20000}, {16, 7, 30000}, {2375, 7, 2970000}, {2376, 7, 2980000},
            {2376, 1, 11890000}});
    }

    /** Rounds: "with rule 1, the number of papers, divided by the number of seats and rounded up, times 10000" */
    private static void quotaOfRule1() {
        quotas(1, new int[][] {{0, 1, 0}, {0, 7, 0}, {1, 1, 10000}, {2, 1, 20000}, {1, 7, 10000}, {6, 7, 10000},
            {7, 7, 10000}, {8, 7, 20000}, {14, 7, 20000}, {15, 7, 30000}, {2373, 7, 3390000}, {2374, 7, 3400000},
            {2376, 7, 3400000}, {2376, 1, 23760000}});
    }

    /** Rounds: "with rule 2, the total, divided by the number of seats plus 1 and rounded down, plus 1" */
    private static void quotaOfRule2() {
        quotas(2, new int[][] {{0, 1, 1}, {0, 7, 1}, {1, 1, 5001}, {2, 1, 10001}, {1, 2, 3334}, {2, 2, 6667},
            {3, 2, 10001}, {1, 7, 1251}, {8, 7, 10001}, {1, 6, 1429}, {2376, 1, 11880001}, {2376, 7, 2970001}});
    }

    /** Rounds: "with rule 3, the same with the total less the exhausted and lost units." */
    private static void quotaOfRule3() {
        quotas(3, new int[][] {{0, 1, 1}, {0, 7, 1}, {1, 1, 5001}, {3, 2, 10001}, {1, 6, 1429}, {2376, 7, 2970001}});
        ElectionTabulator x = withRule(3, withPapers(2376, 1));
        x.withdraw(0);
        Check.is("all units are exhausted", x.round(0, 1), 23760000);
        Check.is("the quota of none that are left", x.round(0, 0), 1);
        Check.read(x, "#0=98;#1=98;~1:b;");
        Check.is("all but 98 papers are exhausted", x.round(0, 0), 490001);
        ElectionTabulator y = withRule(3, Check.election(3, 2, "6:abc;3:cab;"));
        Check.is("the quota before units are lost", y.round(0, 0), 30001);
        Check.is("the lost units", y.round(1, 2), 5);
        Check.is("the quota when units are lost", y.round(1, 0), 29999);
        Check.is("the quota of rule 2 all the same", withRule(2, y).round(1, 0), 30001);
    }

    /**
     * Rounds: "As long as there are free seats, hopeful candidates whose votes are at least the quota are elected, one
     * after the other"
     */
    private static void atLeastTheQuota() {
        ElectionTabulator equal = Check.election(3, 1, "2:a;1:b;");
        Check.round(equal, 0, Check.row(20000, 0, 0, 0, -1, 0, 1), 20000, 10000, 0);
        Check.fate(equal, 0, 1, 0, 0, 1, -1, 20000);
        ElectionTabulator later = withRule(3, Check.election(3, 2, "2:bac;1:ca;"));
        Check.round(later, 0, Check.row(10001, 0, 0, 1, 1, 9998, 2), 0, 20000, 10000);
        Check.round(later, 1, Check.row(10000, 0, 1, 0, -1, 0, 4), 9998, 10001, 10000);
        ElectionTabulator less = withRule(1, Check.election(3, 2, "3:bca;1:cba;"));
        Check.round(less, 0, Check.row(20000, 0, 0, 1, 1, 9999, 2), 0, 30000, 10000);
        Check.round(less, 1, Check.row(20000, 0, 1, 2, 0, 0, 0), 0, 20000, 19999);
        Check.round(less, 2, Check.row(20000, 0, 1, 0, -1, 0, 4), 0, 20000, 19999);
        Check.is("the one that never had the quota", less.candidate(2, 3), 2);
        ElectionTabulator more = withRule(3, Check.election(3, 2, "6:abc;3:cab;"));
        Check.round(more, 1, Check.row(29999, 0, 5, 0, -1, 0, 4), 30001, 29994, 30000);
        Check.is("the one with one unit more", more.candidate(2, 3), 1);
    }

    /** Rounds: "As long as there are free seats" */
    private static void asLongAsThereAreFreeSeats() {
        for (int candidates = 2; candidates <= 8; candidates++) {
            for (int seats = 1; seats <= 7; seats++) {
                // By rule 1 each of them has the quota of 0.
                ElectionTabulator x = withRule(1, Check.election(candidates, seats));
                int elected = Math.min(candidates, seats);
                Check.is("elected in round 0", x.round(0, 6), (1 << elected) - 1);
                Check.is("rounds", x.rounds(), 1);
                for (int c = 0; c < candidates; c++) {
                    Check.is("status", x.candidate(c, 0), c < elected ? 1 : 0);
                    Check.is("reason", x.candidate(c, 3), c < elected ? 1 : 0);
                }
            }
        }
    }

    /**
     * Rounds: "hopeful candidates whose votes are at least the quota are elected, one after the other, the one with the
     * most votes first."
     */
    private static void mostVotesFirst() {
        ElectionTabulator x = Check.election(4, 3, "4:b;5:c;6:d;");
        Check.is("the quota is that of the last one", x.round(0, 0), 40000);
        Check.order(x, 3, 2, 1);
        Check.is("all in one round", x.round(0, 6), 14);
        Check.read(x, "#0=6;#2=4;");
        Check.order(x, 1, 2, 3);
    }

    /** Rounds: "If no seat is free, the round is the last one." */
    private static void noSeatIsFree() {
        ElectionTabulator x = Check.election(3, 1, "9:ab;1:b;");
        Check.is("rounds", x.rounds(), 1);
        Check.round(x, 0, Check.row(60000, 0, 0, 0, -1, 0, 1), 90000, 10000, 0);
        Check.is("b stays hopeful", x.candidate(1, 0), 0);
        x.set(3, 2);
        Check.is("with a free seat the surplus goes on", x.round(0, 3), 1);
        ElectionTabulator seven = Check.election(8, 7, "2:a;2:b;2:c;2:d;2:e;2:f;2:g;");
        Check.round(seven, 0, Check.row(20000, 0, 0, 0, -1, 0, 127), 20000, 20000, 20000, 20000, 20000, 20000, 20000,
            0);
        Check.is("h stays hopeful", seven.candidate(7, 0), 0);
    }

    /**
     * Rounds: "Otherwise, if there are not more hopeful candidates than free seats, all of them are elected" "and the
     * round is the last one."
     */
    private static void notMoreHopefulThanFreeSeats() {
        for (int candidates = 2; candidates <= 8; candidates++) {
            for (int seats = 1; seats <= 7; seats++) {
                // Without papers nobody has the quota of rule 0.
                ElectionTabulator x = Check.election(candidates, seats);
                int elected = Math.min(candidates, seats);
                int last = candidates - elected;
                Check.is("rounds", x.rounds(), last + 1);
                Check.is("elected in the last round", x.round(last, 6), (1 << elected) - 1);
                for (int c = 0; c < candidates; c++) {
                    Check.is("status", x.candidate(c, 0), c < elected ? 1 : 2);
                    Check.is("reason", x.candidate(c, 3), c < elected ? 2 : 5);
                }
            }
        }
        ElectionTabulator nobody = Check.election(2, 1);
        nobody.withdraw(0);
        nobody.withdraw(1);
        Check.is("rounds of nobody", nobody.rounds(), 1);
        Check.is("nobody is elected", nobody.count(3), 0);
    }

    /** Rounds: "all of them are elected, the one with the most votes first" */
    private static void lastOnesInOrder() {
        ElectionTabulator x = Check.election(4, 3, "1:a;2:b;3:c;99:d;");
        x.withdraw(3);
        Check.is("nobody has the quota", x.round(0, 0), 270000);
        Check.order(x, 2, 1, 0);
        Check.is("reason", x.candidate(2, 3), 2);
        x.set(3, 4);
        Check.order(x, 2, 1, 0);
        x.set(3, 2);
        Check.order(x, 2, 1);
    }

    /**
     * Rounds: "Otherwise, if there are elected candidates whose surplus has not been transferred and whose votes are
     * greater than the quota of this round"
     */
    private static void greaterThanTheQuota() {
        ElectionTabulator x = withRule(3, Check.election(5, 3, "1:ead;1:ec;1:eba;1:dac;"));
        Check.round(x, 0, Check.row(10001, 0, 0, 1, 4, 19998, 16), 0, 0, 0, 10000, 30000);
        // d has just the quota: no surplus, so that c is excluded.
        Check.round(x, 1, Check.row(10000, 0, 1, 2, 2, 6666, 8), 6666, 6666, 6666, 10000, 10001);
        Check.round(x, 2, Check.row(8334, 6666, 1, 1, 3, 1666, 0), 6666, 6666, 0, 10000, 10001);
        Check.round(x, 3, Check.row(8334, 6666, 1, 2, 1, 6666, 0), 8332, 6666, 0, 8334, 10001);
        Check.round(x, 4, Check.row(8334, 6666, 1, 0, -1, 0, 1), 14998, 0, 0, 8334, 10001);
        ElectionTabulator one = withRule(3, Check.election(5, 3, "3:be;1:a;3:bd;2:cab;"));
        // c has one unit more than the quota: its surplus goes before anybody is excluded.
        Check.round(one, 2, Check.row(19999, 10000, 5, 1, 2, 0, 4), 0, 22501, 20000, 18747, 18747);
        Check.round(one, 3, Check.row(19999, 10000, 6, 2, 4, 18747, 0), 0, 22501, 19999, 18747, 18747);
    }

    /** Rounds: "whose surplus has not been transferred" */
    private static void surplusIsTransferredOnce() {
        ElectionTabulator x = withRule(3, Check.election(5, 3, "9:a;3:b;3:c;2:d;2:e;"));
        Check.round(x, 0, Check.row(47501, 0, 0, 1, 0, 42498, 1), 90000, 30000, 30000, 20000, 20000);
        Check.round(x, 1, Check.row(36876, 42498, 1, 2, 4, 20000, 0), 47501, 30000, 30000, 20000, 20000);
        Check.round(x, 2, Check.row(31876, 62498, 1, 2, 3, 20000, 0), 47501, 30000, 30000, 20000, 0);
        Check.round(x, 3, Check.row(26876, 82498, 1, 0, -1, 0, 6), 47501, 30000, 30000, 0, 0);
    }

    /** Rounds: "the surplus of the one with the most votes is transferred." */
    private static void mostVotesAreTransferredFirst() {
        ElectionTabulator x = Check.election(5, 3, "7:ae;9:bd;1:c;1:d;1:e;");
        Check.is("the first transfer", x.round(0, 4), 1);
        Check.is("the second transfer", x.round(1, 4), 0);
        Check.read(x, "#0=9;#1=7;");
        Check.is("the first transfer", x.round(0, 4), 0);
        Check.is("the second transfer", x.round(1, 4), 1);
        Check.is("no third one", x.round(2, 3), 2);
    }

    /** Rounds: "Otherwise, the hopeful candidate with the fewest votes is excluded" */
    private static void fewestVotes() {
        ElectionTabulator x = withRule(1, Check.election(4, 1, "2:a;1:b;3:c;"));
        Check.round(x, 0, Check.row(60000, 0, 0, 2, 3, 0, 0), 20000, 10000, 30000, 0);
        Check.round(x, 1, Check.row(60000, 0, 0, 2, 1, 10000, 0), 20000, 10000, 30000, 0);
        Check.round(x, 2, Check.row(60000, 10000, 0, 2, 0, 20000, 0), 20000, 0, 30000, 0);
        Check.round(x, 3, Check.row(60000, 30000, 0, 0, -1, 0, 4), 0, 0, 30000, 0);
    }

    /** Rounds: "each pile that is with it goes on with the same worth, and its votes become 0." */
    private static void goesOnWithTheSameWorth() {
        ElectionTabulator x = Check.election(4, 2, "8:abc;1:b;5:c;5:d;");
        Check.round(x, 0, Check.row(70000, 0, 0, 1, 0, 10000, 1), 80000, 10000, 50000, 50000);
        Check.round(x, 1, Check.row(70000, 0, 0, 2, 1, 20000, 0), 70000, 20000, 50000, 50000);
        Check.where(x, 1, 1, 1250, 1, 10000, 2, 10000, 3, 10000);
        Check.round(x, 2, Check.row(70000, 10000, 0, 2, 3, 50000, 0), 70000, 0, 60000, 50000);
        Check.where(x, 2, 2, 1250, -1, 10000, 2, 10000, 3, 10000);
        Check.round(x, 3, Check.row(70000, 60000, 0, 0, -1, 0, 4), 70000, 0, 60000, 0);
        Check.where(x, 3, 2, 1250, -1, 10000, 2, 10000, -1, 10000);
    }

    /**
     * Rounds: "A pile that goes on is then with the next hopeful candidate after the place in its ranking where it was,
     * or exhausted if there is none."
     */
    private static void nextHopefulCandidate() {
        ElectionTabulator x = withRule(1, Check.election(4, 1, "1:d;1:dc;1:dbc;5:a;4:b;3:c;"));
        Check.where(x, 0, 3, 10000, 3, 10000, 3, 10000, 0, 10000, 1, 10000, 2, 10000);
        Check.where(x, 1, -1, 10000, 2, 10000, 1, 10000, 0, 10000, 1, 10000, 2, 10000);
        Check.where(x, 2, -1, 10000, -1, 10000, 1, 10000, 0, 10000, 1, 10000, -1, 10000);
        Check.where(x, 3, -1, 10000, -1, 10000, -1, 10000, 0, 10000, -1, 10000, -1, 10000);
        Check.is("rounds", x.rounds(), 4);
        ElectionTabulator eight = withRule(1, Check.election(8, 1, "0:hgfedcba;1:h;2:g;3:f;4:e;5:d;6:c;7:b;8:a;"));
        Check.is("rounds", eight.rounds(), 8);
        for (int round = 0; round < 8; round++) {
            Check.is("the pile goes through all eight", eight.where(round, 0, 0), 7 - round);
        }
    }

    /**
     * Rounds: "the next hopeful candidate after the place in its ranking where it was" passes those that are elected or
     * withdrawn.
     */
    private static void passesElectedAndWithdrawn() {
        ElectionTabulator x = Check.election(5, 3, "8:abcd;8:c;1:d;1:e;");
        x.withdraw(1);
        Check.round(x, 0, Check.row(50000, 0, 0, 1, 0, 30000, 5), 80000, 0, 80000, 10000, 10000);
        Check.where(x, 1, 3, 3750, 2, 10000, 3, 10000, 4, 10000);
        Check.round(x, 1, Check.row(50000, 0, 0, 1, 2, 30000, 0), 50000, 0, 80000, 40000, 10000);
        Check.where(x, 2, 3, 3750, -1, 3750, 3, 10000, 4, 10000);
        Check.round(x, 2, Check.row(50000, 30000, 0, 2, 4, 10000, 0), 50000, 0, 50000, 40000, 10000);
        Check.round(x, 3, Check.row(50000, 40000, 0, 0, -1, 0, 8), 50000, 0, 50000, 40000, 0);
    }

    /** Rounds: "Its papers count for the votes of this candidate, or for the exhausted units." */
    private static void countsForOneOrTheOther() {
        ElectionTabulator x = withRule(1, Check.election(3, 1, "9:a;3:b;1:cb;1:c;0:ca;"));
        Check.round(x, 0, Check.row(140000, 0, 0, 2, 2, 20000, 0), 90000, 30000, 20000);
        Check.round(x, 1, Check.row(140000, 10000, 0, 2, 1, 40000, 0), 90000, 40000, 0);
        Check.round(x, 2, Check.row(140000, 50000, 0, 0, -1, 0, 1), 90000, 0, 0);
        Check.is("a pile without papers counts nothing", x.where(1, 4, 0), 0);
    }

    /** Rounds: "The votes of a round are those before step 4 or 5 of this round." */
    private static void votesBeforeTheStep() {
        ElectionTabulator x = Check.election(4, 2, "8:abc;1:b;5:c;5:d;");
        Check.is("before the transfer", x.votes(0, 0), 80000);
        Check.is("after the transfer", x.votes(1, 0), 70000);
        Check.is("before the exclusion", x.votes(1, 1), 20000);
        Check.is("after the exclusion", x.votes(2, 1), 0);
        Check.is("before it of the one to whom they go", x.votes(1, 2), 50000);
        Check.is("after it of the one to whom they go", x.votes(2, 2), 60000);
    }
}
