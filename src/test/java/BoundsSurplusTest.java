/**
 * The bounds of the Description's part Surplus, and of promises 10 to 12, 15 and 16: rounds, votes, round, where,
 * share.
 */
public final class BoundsSurplusTest {
    private static final int LEAST = Integer.MIN_VALUE;
    private static final int GREATEST = Integer.MAX_VALUE;

    public static void main(String[] args) {
        votesMinusTheQuotaOfTheRound();
        allPilesThatAreWithIt();
        latestRoundWithPapers();
        pilesWithoutPapersInThatRound();
        fromTheBeginningIfThereIsNoSuchRound();
        pilesThatCameLaterWithoutPapers();
        roundedDown();
        atMostTheWorth();
        noWorthIfTheSumIsNone();
        restIsLost();
        votesBecomeTheQuota();
        pilesThatStay();
        fewestAndMostRounds();
        noSuchRoundOrCandidate();
        excludedOrWithdrawn();
        numbersOfARound();
        happenings();
        lastRound();
        noSuchRound();
        noSuchNumberOfARound();
        places();
        noSuchRoundOrPile();
        noSuchNumberOfAPlace();
        quotientOfFloats();
        noRoundOrCandidateToShare();
        noPapersToShare();
        Check.end();
    }

    /** Surplus: "The surplus of an elected candidate is its votes minus the quota of the round." */
    private static void votesMinusTheQuotaOfTheRound() {
        ElectionTabulator x = Check.election(4, 2, "6:abc;5:b;5:cb;3:d;");
        x.set(0, 3);
        Check.is("less than the quota at first", x.round(0, 0), 63334);
        Check.is("the quota of the round", x.round(1, 0), 53334);
        Check.is("the surplus in it", x.round(1, 5), 60000 - 53334);
    }

    /** Surplus: "With transfer rule 0, all piles that are with it go on" */
    private static void allPilesThatAreWithIt() {
        ElectionTabulator x = Check.election(4, 2, "5:ab;0:ad;4:cad;0:cab;6:b;6:d;");
        Check.where(x, 1, 0, 10000, 0, 10000, 0, 10000, 0, 10000, 1, 10000, 3, 10000);
        Check.where(x, 2, 1, 1111, 3, 1111, 3, 1111, 1, 1111, 1, 10000, 3, 10000);
    }

    /**
     * Surplus: "with rule 1, only its last parcel, which consists of the piles that came to it in the latest round in
     * which piles with papers came to it"
     */
    private static void latestRoundWithPapers() {
        ElectionTabulator x = Check.election(5, 2, "5:ae;3:cab;2:dab;7:e;7:b;");
        x.set(1, 1);
        Check.round(x, 0, Check.row(90000, 0, 0, 2, 3, 20000, 0), 50000, 70000, 30000, 20000, 70000);
        Check.round(x, 1, Check.row(90000, 0, 0, 2, 2, 30000, 0), 70000, 70000, 30000, 0, 70000);
        // a has parcels of the beginning, of round 0 and of round 1; only the last one goes on.
        Check.round(x, 2, Check.row(90000, 0, 0, 1, 0, 9999, 1), 100000, 70000, 0, 0, 70000);
        Check.where(x, 2, 0, 10000, 0, 10000, 0, 10000, 4, 10000, 1, 10000);
        Check.where(x, 3, 0, 10000, 1, 3333, 0, 10000, 4, 10000, 1, 10000);
        Check.round(x, 3, Check.row(90000, 0, 1, 2, 4, 70000, 0), 90000, 79999, 0, 0, 70000);
        ElectionTabulator first = Check.election(5, 2, "3:cab;5:ae;2:dab;7:e;7:b;");
        first.set(1, 1);
        Check.where(first, 2, 0, 10000, 0, 10000, 0, 10000, 4, 10000, 1, 10000);
        Check.where(first, 3, 1, 3333, 0, 10000, 0, 10000, 4, 10000, 1, 10000);
    }

    /** Surplus: "also of those of them that have no papers" */
    private static void pilesWithoutPapersInThatRound() {
        ElectionTabulator x = Check.election(4, 2, "5:ab;4:cad;0:cab;6:b;6:d;0:ad;");
        x.set(1, 1);
        Check.where(x, 1, 0, 10000, 0, 10000, 0, 10000, 1, 10000, 3, 10000, 0, 10000);
        Check.where(x, 2, 0, 10000, 3, 2500, 1, 2500, 1, 10000, 3, 10000, 0, 10000);
    }

    /** Surplus: "and of those that were with it from the beginning if there is no such round." */
    private static void fromTheBeginningIfThereIsNoSuchRound() {
        ElectionTabulator x = Check.election(3, 2, "9:ab;0:ac;0:ba;1:b;2:c;");
        x.set(1, 1);
        Check.round(x, 0, Check.row(50000, 0, 0, 1, 0, 39996, 1), 90000, 10000, 20000);
        Check.where(x, 1, 1, 4444, 2, 4444, 1, 10000, 1, 10000, 2, 10000);
    }

    /**
     * Surplus: "in the latest round in which piles with papers came to it": a round in which none with papers came is
     * passed over.
     */
    private static void pilesThatCameLaterWithoutPapers() {
        ElectionTabulator x = Check.election(4, 2, "6:ab;5:b;5:d;0:cab;3:c;0:ad;");
        x.set(0, 3);
        x.set(1, 1);
        Check.round(x, 1, Check.row(53334, 30000, 0, 1, 0, 6666, 1), 60000, 50000, 0, 50000);
        Check.where(x, 1, 0, 10000, 1, 10000, 3, 10000, 0, 10000, -1, 10000, 0, 10000);
        Check.where(x, 2, 1, 1111, 1, 10000, 3, 10000, 0, 10000, -1, 10000, 3, 1111);
        ElectionTabulator one = Check.election(4, 2, "6:ab;5:b;5:d;1:cab;2:c;0:ad;");
        one.set(0, 3);
        one.set(1, 1);
        Check.is("a round in which one paper came", one.where(2, 0, 1), 10000);
        Check.is("its pile goes on", one.where(2, 3, 0), 1);
    }

    /**
     * Surplus: "Each of these piles gets a new worth: the worth times the surplus, divided by the sum of the worth of
     * all papers of these piles, and rounded down"
     */
    private static void roundedDown() {
        ElectionTabulator even = Check.election(3, 2, "8:ab;1:b;2:c;");
        Check.round(even, 0, Check.row(40000, 0, 0, 1, 0, 40000, 1), 80000, 10000, 20000);
        Check.is("the worth without a rest", even.where(1, 0, 1), 5000);
        Check.is("nothing is lost", even.round(1, 2), 0);
        ElectionTabulator uneven = Check.election(3, 2, "9:ab;1:b;2:c;");
        Check.is("the worth of 4444.4", uneven.where(1, 0, 1), 4444);
        Check.is("the rest is lost", uneven.round(1, 2), 4);
        ElectionTabulator nearly = Check.election(3, 2, "6:abc;3:cab;");
        nearly.set(0, 3);
        Check.is("the worth of 4999.8", nearly.where(1, 0, 1), 4999);
        // The greatest surplus: times the worth it is far beyond an int.
        ElectionTabulator most = Check.election(8, 7);
        for (int p = 0; p < 24; p++) {
            Check.read(most, "99:ab;");
        }
        most.set(0, 2);
        Check.is("the surplus of all papers", most.votes(0, 0) - most.round(0, 0), 20789999);
        Check.is("the worth of 8749.9", most.where(1, 0, 1), 8749);
        Check.is("what goes on", most.round(0, 5), 20787624);
        Check.is("what is lost", most.round(1, 2), 2375);
    }

    /** Surplus: "but at most the worth" */
    private static void atMostTheWorth() {
        ElectionTabulator less = Check.election(4, 2, "6:ab;5:b;5:d;1:ca;3:c;");
        less.set(0, 3);
        less.set(1, 1);
        Check.round(less, 1, Check.row(56667, 30000, 0, 1, 0, 10000, 1), 70000, 50000, 0, 50000);
        Check.is("a sum less than the surplus", less.where(2, 3, 1), 10000);
        Check.is("what is lost", less.round(2, 2), 3333);
        ElectionTabulator equal = Check.election(4, 3, "1:c;3:acd;");
        equal.set(0, 3);
        equal.set(1, 1);
        Check.round(equal, 0, Check.row(10001, 0, 0, 1, 0, 19998, 1), 30000, 0, 10000, 0);
        Check.round(equal, 1, Check.row(10000, 0, 1, 1, 2, 19998, 4), 10001, 0, 29998, 0);
        Check.where(equal, 1, 2, 10000, 2, 6666);
        Check.where(equal, 2, 2, 10000, 3, 6666);
        Check.round(equal, 2, Check.row(10000, 0, 1, 0, -1, 0, 8), 10001, 0, 10000, 19998);
    }

    /** Surplus: "and 0 if that sum is 0." */
    private static void noWorthIfTheSumIsNone() {
        ElectionTabulator x = Check.election(7, 4, "3:dcg;8:gcf;3:bd;4:fc;2:ae;");
        x.set(0, 3);
        x.set(1, 1);
        Check.round(x, 0, Check.row(40001, 0, 0, 1, 6, 39992, 64), 20000, 30000, 0, 30000, 0, 40000, 80000);
        Check.round(x, 1, Check.row(39999, 0, 7, 1, 5, 0, 32), 20000, 30000, 39992, 30000, 0, 40000, 40001);
        Check.round(x, 4, Check.row(35999, 20000, 8, 1, 2, 0, 4), 0, 30000, 39992, 30000, 0, 39999, 40001);
        Check.where(x, 4, 3, 10000, 2, 4999, 1, 10000, 2, 0, -1, 10000);
        Check.where(x, 5, 3, 10000, 2, 4999, 1, 10000, -1, 0, -1, 10000);
        Check.round(x, 5, Check.row(35200, 20000, 4001, 2, 3, 30000, 0), 0, 30000, 35999, 30000, 0, 39999, 40001);
        Check.round(x, 6, Check.row(29200, 50000, 4001, 0, -1, 0, 2), 0, 30000, 35999, 0, 0, 39999, 40001);
        sumOfOneUnit();
    }

    /** The last parcel of c is one paper that is worth one unit: that is not yet 0. */
    private static void sumOfOneUnit() {
        ElectionTabulator x = Check.election(7, 4, "58:gcd;8:g;1:fc;31:f;2:c;30:ed;7:bd;27:a;");
        x.set(0, 3);
        x.set(1, 1);
        Check.round(x, 0, Check.row(328001, 0, 0, 1, 6, 331980, 64), 270000, 70000, 20000, 0, 300000, 320000, 660000);
        Check.round(x, 1, Check.row(319949, 40240, 19, 1, 5, 32, 32), 270000, 70000, 311740, 0, 300000, 320000, 328001);
        Check.round(x, 4, Check.row(305939, 110271, 38, 1, 2, 1, 4), 270000, 0, 311741, 0, 300000, 319949, 328001);
        Check.where(x, 4, 2, 5030, -1, 5030, 2, 1, -1, 1);
        Check.where(x, 5, 2, 5030, -1, 5030, -1, 1, -1, 1);
        Check.round(x, 5, Check.row(304778, 110272, 5839, 2, 0, 270000, 0), 270000, 0, 305939, 0, 300000);
    }

    /**
     * Surplus: "What the papers that go on are then worth together is transferred; the rest of the surplus is lost, and
     * counts for the lost units."
     */
    private static void restIsLost() {
        ElectionTabulator x = Check.election(4, 2, "9:abc;3:ba;4:cd;2:d;1:bd;");
        Check.is("the surplus", x.votes(0, 0) - x.round(0, 0), 20000);
        Check.is("what is transferred", x.round(0, 5), 19998);
        Check.is("lost before", x.round(0, 2), 0);
        Check.is("lost after", x.round(1, 2), 2);
        for (int round = 0; round < x.rounds(); round++) {
            int sum = x.round(round, 1) + x.round(round, 2);
            for (int c = 0; c < 4; c++) {
                sum += x.votes(round, c);
            }
            Check.is("all units together", sum, 190000);
        }
    }

    /** Surplus: "The votes of the candidate become the quota." */
    private static void votesBecomeTheQuota() {
        ElectionTabulator x = Check.election(5, 3, "9:a;3:b;3:c;2:d;2:e;");
        x.set(0, 3);
        Check.is("the quota of the round", x.round(0, 0), 47501);
        for (int round = 1; round < 4; round++) {
            Check.is("the votes after it", x.votes(round, 0), 47501);
        }
        Check.is("the votes in the end", x.candidate(0, 5), 47501);
    }

    /** Surplus: "Piles that do not go on stay with it; they keep their worth." */
    private static void pilesThatStay() {
        ElectionTabulator x = Check.election(4, 2, "5:ab;4:cad;0:cab;6:b;6:d;");
        x.set(1, 1);
        Check.is("rounds", x.rounds(), 4);
        for (int round = 0; round < 4; round++) {
            Check.is("with the elected one", x.where(round, 0, 0), 0);
            Check.is("the worth", x.where(round, 0, 1), 10000);
        }
        Check.is("votes are the quota all the same", x.votes(3, 0), 80000);
    }

    /** Promise 10: "Returns the number of rounds." */
    private static void fewestAndMostRounds() {
        Check.is("as many seats as candidates", Check.election(7, 7).rounds(), 1);
        Check.is("nobody hopeful", withdrawn(Check.election(2, 1), 2).rounds(), 1);
        Check.is("one hopeful", withdrawn(Check.election(8, 1), 7).rounds(), 1);
        Check.is("seven exclusions", Check.election(8, 1).rounds(), 8);
        ElectionTabulator x = Check.election(8, 7, "9:ab;8:ba;7:cd;6:dc;5:ef;", "4:fe;2:g;1:h;");
        x.set(0, 3);
        Check.is("six transfers and an exclusion", x.rounds(), 8);
        for (int round = 0; round < 6; round++) {
            Check.is("a transfer", x.round(round, 3), 1);
        }
        Check.is("the exclusion", x.round(6, 3), 2);
        Check.outOfBounds("a ninth round", () -> x.round(8, 3));
    }

    private static ElectionTabulator withdrawn(ElectionTabulator x, int number) {
        for (int c = 0; c < number; c++) {
            x.withdraw(c);
        }
        return x;
    }

    /** Promise 11: "Throws `IndexOutOfBoundsException` if there is no such round or candidate" */
    private static void noSuchRoundOrCandidate() {
        for (int candidates = 2; candidates <= 8; candidates++) {
            ElectionTabulator x = Check.election(candidates, 1, "3:a;");
            x.set(0, 1);
            int one = candidates;
            int rounds = x.rounds();
            Check.is("the last candidate in the last round", x.votes(rounds - 1, one - 1), 0);
            Check.is("the first candidate in the first round", x.votes(0, 0), 30000);
            for (int wrong : new int[] {-1, rounds, 8, 9, LEAST, GREATEST}) {
                Check.outOfBounds("votes(" + wrong + ", 0)", () -> x.votes(wrong, 0));
            }
            for (int wrong : new int[] {-1, one, 8, 9, LEAST, GREATEST}) {
                Check.outOfBounds("votes(0, " + wrong + ")", () -> x.votes(0, wrong));
            }
        }
        Twins.refuse("votes(9, 9)", IndexOutOfBoundsException.class, Twins::rich, x -> x.votes(9, 9));
    }

    /** Promise 11: "Returns the units, 0 if it was excluded in an earlier round, or is withdrawn." */
    private static void excludedOrWithdrawn() {
        ElectionTabulator x = Check.election(4, 1, "9:a;2:b;3:c;4:d;");
        x.set(0, 1);
        x.withdraw(2);
        Check.is("in the round of its exclusion", x.votes(0, 1), 20000);
        Check.is("in the next round", x.votes(1, 1), 0);
        Check.is("in the last round", x.votes(2, 1), 0);
        for (int round = 0; round < 3; round++) {
            Check.is("a withdrawn one", x.votes(round, 2), 0);
        }
        Check.is("an elected one", x.votes(2, 0), 90000);
    }

    /**
     * Promise 12: "- `what`: 0 for its quota; 1 for the exhausted units, 2 for the lost units, both before step 4 or 5"
     */
    private static void numbersOfARound() {
        ElectionTabulator x = Check.election(5, 3, "9:a;3:b;3:c;2:d;2:e;");
        x.set(0, 3);
        int[][] due = {{47501, 0, 0}, {36876, 42498, 1}, {31876, 62498, 1}, {26876, 82498, 1}};
        for (int round = 0; round < 4; round++) {
            for (int what = 0; what < 3; what++) {
                Check.is("round(" + round + ", " + what + ")", x.round(round, what), due[round][what]);
            }
        }
    }

    /**
     * Promise 12: "3 for what happened in it: 0 it is the last one, 1 a surplus was transferred, 2 a candidate was
     * excluded; 4 for the candidate to whom that happened, or -1; 5 for the units that went on, exhausted ones
     * included; 6 for the set of the candidates that were elected in it, bit c for candidate c"
     */
    private static void happenings() {
        ElectionTabulator x = Check.election(8, 2, "9:hga;9:h;1:b;0:c;1:a;", "2:g;3:f;3:e;4:d;!abcdefgh;");
        int[][] due = {{1, 7, 69984, 128}, {2, 2, 0, 0}, {2, 1, 10000, 0}, {2, 0, 10000, 0}, {2, 5, 30000, 0},
            {2, 4, 30000, 0}, {2, 3, 40000, 0}, {0, -1, 0, 64}};
        for (int round = 0; round < 8; round++) {
            for (int what = 3; what < 7; what++) {
                Check.is("round(" + round + ", " + what + ")", x.round(round, what), due[round][what - 3]);
            }
        }
        ElectionTabulator seven = Check.election(8, 7);
        Check.is("the set of the greatest seven", withdrawn(seven, 1).round(0, 6), 254);
    }

    /** Promise 12: "0 it is the last one" */
    private static void lastRound() {
        ElectionTabulator[] some = {new ElectionTabulator(), Check.election(8, 1), Check.election(8, 7), Twins.rich()};
        for (ElectionTabulator x : some) {
            int last = x.rounds() - 1;
            for (int round = 0; round <= last; round++) {
                int isLast = round == last ? 1 : 0;
                Check.is("only the last round is the last one", x.round(round, 3) == 0 ? 1 : 0, isLast);
                Check.is("only the last round has no candidate", x.round(round, 4) == -1 ? 1 : 0, isLast);
            }
            Check.is("nothing went on in it", x.round(last, 5), 0);
        }
    }

    /** Promise 12: "Throws `IndexOutOfBoundsException` if there is no such round" */
    private static void noSuchRound() {
        for (int candidates = 2; candidates <= 8; candidates++) {
            ElectionTabulator x = Check.election(candidates, 1);
            int rounds = candidates;
            Check.is("the last round", x.round(rounds - 1, 3), 0);
            for (int wrong : new int[] {-1, rounds, 8, 9, LEAST, GREATEST}) {
                Check.outOfBounds("round(" + wrong + ", 0)", () -> x.round(wrong, 0));
                Check.outOfBounds("round(" + wrong + ", 7)", () -> x.round(wrong, 7));
            }
            // A longer count before leaves no round behind.
            x.set(3, 7);
            int fewer = candidates == 8 ? 2 : 1;
            Check.outOfBounds("a round of the count before", () -> x.round(fewer, 0));
        }
        Twins.refuse("round(9, 0)", IndexOutOfBoundsException.class, Twins::rich, x -> x.round(9, 0));
    }

    /** Promise 12: "Throws `IllegalArgumentException` if there is no such what" */
    private static void noSuchNumberOfARound() {
        ElectionTabulator x = new ElectionTabulator();
        Check.is("the least what", x.round(0, 0), 10000);
        Check.is("the greatest what", x.round(2, 6), 1);
        for (int wrong : new int[] {-1, 7, 8, 10, LEAST, GREATEST}) {
            Check.illegalArgument("round(0, " + wrong + ")", () -> x.round(0, wrong));
            Twins.refuse("round(0, " + wrong + ")", IllegalArgumentException.class, Twins::rich,
                y -> y.round(0, wrong));
        }
    }

    /**
     * Promise 15: "- `what`: 0 for the candidate with whom it is, -1 if it is exhausted; 1 for the worth of each of its
     * papers"
     */
    private static void places() {
        ElectionTabulator x = Check.election(8, 2, "8:ha;1:b;5:g;5:d;0:ab;");
        for (int c : new int[] {2, 4, 5}) {
            x.withdraw(c);
        }
        Check.where(x, 0, 7, 10000, 1, 10000, 6, 10000, 3, 10000, 0, 10000);
        Check.where(x, 1, 0, 1250, 1, 10000, 6, 10000, 3, 10000, 0, 10000);
        // a and b have as many votes; a had fewer before, and its piles go on.
        Check.where(x, 2, -1, 1250, 1, 10000, 6, 10000, 3, 10000, 1, 10000);
        Check.where(x, 3, -1, 1250, -1, 10000, 6, 10000, 3, 10000, -1, 10000);
    }

    /** Promise 15: "Throws `IndexOutOfBoundsException` if there is no such round or pile" */
    private static void noSuchRoundOrPile() {
        ElectionTabulator x = new ElectionTabulator();
        for (int piles = 0; piles <= 24; piles++) {
            int one = piles;
            Check.outOfBounds("where(0, " + piles + ", 0)", () -> x.where(0, one, 0));
            if (piles < 24) {
                Check.read(x, "0:b;");
                Check.is("the last pile in the last round", x.where(2, piles, 0), -1);
                Check.is("the last pile in the first round", x.where(0, piles, 0), 1);
            }
        }
        for (int wrong : new int[] {-1, 24, 25, LEAST, GREATEST}) {
            Check.outOfBounds("where(0, " + wrong + ", 1)", () -> x.where(0, wrong, 1));
            Check.outOfBounds("where(0, " + wrong + ", 2)", () -> x.where(0, wrong, 2));
        }
        for (int wrong : new int[] {-1, 3, 8, 9, LEAST, GREATEST}) {
            Check.outOfBounds("where(" + wrong + ", 0, 1)", () -> x.where(wrong, 0, 1));
            Check.outOfBounds("where(" + wrong + ", 0, 2)", () -> x.where(wrong, 0, 2));
        }
        Twins.refuse("where(9, 5, 0)", IndexOutOfBoundsException.class, Twins::rich, y -> y.where(9, 5, 0));
    }

    /** Promise 15: "Throws `IllegalArgumentException` if there is no such what" */
    private static void noSuchNumberOfAPlace() {
        for (int wrong : new int[] {-1, 2, 3, 10, LEAST, GREATEST}) {
            Twins.refuse("where(0, 0, " + wrong + ")", IllegalArgumentException.class, Twins::rich,
                x -> x.where(0, 0, wrong));
        }
    }

    /** Promise 16: "Returns the quotient of both numbers as floats." */
    private static void quotientOfFloats() {
        ElectionTabulator x = Check.election(3, 1, "1:a;2:b;");
        Check.isFloat("nothing", x.share(0, 2), 0f);
        Check.isFloat("a third", x.share(0, 0), 10000f / 30000f);
        Check.isFloat("two thirds", x.share(0, 1), 20000f / 30000f);
        Check.isFloat("the whole", Check.election(2, 1, "1:b;").share(0, 1), 1f);
        ElectionTabulator most = Check.election(3, 1);
        for (int p = 0; p < 23; p++) {
            Check.read(most, "99:a;");
        }
        Check.read(most, "98:b;");
        Check.isFloat("a great total", most.share(0, 0), (float) 22770000 / (float) 23750000);
        Check.isFloat("the rest of it", most.share(0, 1), (float) 980000 / (float) 23750000);
    }

    /** Promise 16: "Throws `IndexOutOfBoundsException` if there is no such round or candidate" */
    private static void noRoundOrCandidateToShare() {
        for (String text : new String[] {"1:a;", "0:a;"}) {
            ElectionTabulator x = Check.election(3, 1, text);
            x.set(0, 1);
            int rounds = x.rounds();
            for (int wrong : new int[] {-1, rounds, 8, 9, LEAST, GREATEST}) {
                Check.outOfBounds("share(" + wrong + ", 0)", () -> (long) x.share(wrong, 0));
            }
            for (int wrong : new int[] {-1, 3, 7, 8, LEAST, GREATEST}) {
                Check.outOfBounds("share(0, " + wrong + ")", () -> (long) x.share(0, wrong));
            }
        }
        Twins.refuse("share(9, 0)", IndexOutOfBoundsException.class, Twins::rich, x -> (long) x.share(9, 0));
    }

    /** Promise 16: "Throws `ArithmeticException` if there are no papers" */
    private static void noPapersToShare() {
        for (String[] texts : new String[][] {{}, {"0:a;"}, {"0:a;0:b;0:c;"}, {"1:a;", "#0=0;"}}) {
            ElectionTabulator x = Check.election(3, 1, texts);
            int last = x.rounds() - 1;
            for (int c = 0; c < 3; c++) {
                int candidate = c;
                Check.fails("share(0, " + c + ")", ArithmeticException.class, () -> (long) x.share(0, candidate));
                Check.fails("share(last, " + c + ")", ArithmeticException.class, () -> (long) x.share(last, candidate));
            }
        }
        ElectionTabulator one = Check.election(3, 1, "0:a;1:b;");
        Check.isFloat("one paper", one.share(0, 0), 0f);
        one.withdraw(1);
        Check.isFloat("one paper that is exhausted", one.share(0, 0), 0f);
    }
}
