import java.util.NoSuchElementException;

/** The bounds of the Description's part Ties, and of promises 13 and 14: candidate, elected. */
public final class BoundsTiesTest {
    private static final int LEAST = Integer.MIN_VALUE;
    private static final int GREATEST = Integer.MAX_VALUE;

    public static void main(String[] args) {
        latestRoundBeforeThisOne();
        roundsThatAreEqualArePassed();
        stillSeveralByTheRoundsBefore();
        earliestRound();
        stillSeveralByTheRoundsAfter();
        fewestInPlaceOfMost();
        firstAndLastOfTheLot();
        lotAmongThoseThatAreLeft();
        votesAsTheMethodTells();
        everyStatus();
        roundOrNone();
        placeOrNone();
        everyReason();
        roundLookedAtLast();
        votesInTheLastRound();
        noSuchCandidate();
        noSuchNumber();
        firstAndLastPlace();
        noSuchPlace();
        Check.end();
    }

    /** Round by round, a and b have 5 and 4, 5 and 6, 6 and 6 papers; in round 2 nobody has the quota. */
    private static ElectionTabulator changing(int seats, int tieRule) {
        ElectionTabulator x = Check.election(4, seats, "5:a;4:b;2:cb;1:da;2:d;");
        x.set(0, 1);
        x.set(2, tieRule);
        Check.round(x, 0, Check.row(140000 / seats, 0, 0, 2, 2, 20000, 0), 50000, 40000, 20000, 30000);
        Check.round(x, 1, Check.row(140000 / seats, 0, 0, 2, 3, 30000, 0), 50000, 60000, 0, 30000);
        Check.is("votes of a", x.votes(2, 0), 60000);
        Check.is("votes of b", x.votes(2, 1), 60000);
        return x;
    }

    /**
     * Ties: "If several candidates have the same number of votes where one with the most votes is looked for, with tie
     * rule 0 the one that had more votes in the latest round before this one in which the numbers of votes of these
     * candidates are not all equal is taken"
     */
    private static void latestRoundBeforeThisOne() {
        ElectionTabulator x = changing(2, 0);
        Check.order(x, 1, 0);
        Check.read(x, "!abcd;");
        Check.order(x, 1, 0);
        ElectionTabulator quota = Check.election(4, 2, "4:a;4:b;3:c;1:db;2:dc;!acbd;");
        Check.round(quota, 1, Check.row(50000, 0, 0, 0, -1, 0, 6), 40000, 50000, 50000, 0);
        Check.order(quota, 1, 2);
    }

    /**
     * Ties: "in the latest round before this one in which the numbers of votes of these candidates are not all equal"
     */
    private static void roundsThatAreEqualArePassed() {
        ElectionTabulator x = Check.election(5, 2, "5:b;4:c;1:dc;2:e;3:a;!aecbd;");
        for (int round = 1; round < 4; round++) {
            Check.is("b and c", x.votes(round, 1) - x.votes(round, 2), 0);
        }
        Check.is("b and c in round 0", x.votes(0, 1) - x.votes(0, 2), 10000);
        Check.order(x, 1, 2);
    }

    /**
     * Ties: "or if there are still several with the most votes in that round, they are compared with each other in the
     * same way again, by the rounds before that one"
     */
    private static void stillSeveralByTheRoundsBefore() {
        ElectionTabulator x = Check.election(5, 3, "4:a;5:b;4:c;1:da;1:ec;1:e;");
        x.set(0, 1);
        Check.round(x, 0, Check.row(60000, 0, 0, 2, 3, 10000, 0), 40000, 50000, 40000, 10000, 20000);
        Check.round(x, 1, Check.row(60000, 0, 0, 2, 4, 20000, 0), 50000, 50000, 40000, 0, 20000);
        Check.round(x, 2, Check.row(60000, 10000, 0, 0, -1, 0, 7), 50000, 50000, 50000, 0, 0);
        // Round 1 leaves a and b, round 0 leaves b; then round 1 speaks for a against c.
        Check.order(x, 1, 0, 2);
        Check.read(x, "!cabde;");
        Check.order(x, 1, 0, 2);
    }

    /** Ties: "with tie rule 1 the same is done with the earliest round" */
    private static void earliestRound() {
        ElectionTabulator x = changing(2, 1);
        Check.order(x, 0, 1);
        Check.read(x, "!bacd;");
        Check.order(x, 0, 1);
    }

    /** Ties: "and then by the rounds after it, that are before this one." */
    private static void stillSeveralByTheRoundsAfter() {
        ElectionTabulator x = Check.election(6, 3, "5:a;5:b;4:c;1:db;1:ea;2:ec;9:f;");
        x.withdraw(5);
        x.set(0, 1);
        x.set(2, 1);
        Check.round(x, 0, Check.row(90000, 90000, 0, 2, 3, 10000, 0), 50000, 50000, 40000, 10000, 30000);
        Check.round(x, 1, Check.row(90000, 90000, 0, 2, 4, 30000, 0), 50000, 60000, 40000, 0, 30000);
        Check.round(x, 2, Check.row(90000, 90000, 0, 0, -1, 0, 7), 60000, 60000, 60000, 0, 0);
        // Round 0 leaves a and b, round 1 leaves b.
        Check.order(x, 1, 0, 2);
    }

    /** Ties: "Where one with the fewest votes is looked for, fewest takes the place of most." */
    private static void fewestInPlaceOfMost() {
        ElectionTabulator latest = changing(1, 0);
        Check.fate(latest, 0, 2, 2, -1, 4, 1, 0);
        Check.order(latest, 1);
        ElectionTabulator earliest = changing(1, 1);
        Check.fate(earliest, 1, 2, 2, -1, 4, 0, 0);
        Check.order(earliest, 0);
    }

    /**
     * Ties: "If there is no such round, the one that stands first in the lot is taken where one with the most votes is
     * looked for, and the one that stands last where one with the fewest is looked for."
     */
    private static void firstAndLastOfTheLot() {
        for (String lot : new String[] {"abc", "acb", "bac", "bca", "cab", "cba"}) {
            ElectionTabulator x = Check.election(3, 1, "!" + lot + ";");
            Check.is("excluded in round 0", x.round(0, 4), lot.charAt(2) - 'a');
            Check.is("excluded in round 1, though round 0 was before", x.round(1, 4), lot.charAt(1) - 'a');
            Check.is("the only one", x.elected(0), lot.charAt(0) - 'a');
            x.set(3, 3);
            Check.order(x, lot.charAt(0) - 'a', lot.charAt(1) - 'a', lot.charAt(2) - 'a');
            x.set(0, 1);
            x.set(3, 2);
            Check.order(x, lot.charAt(0) - 'a', lot.charAt(1) - 'a');
        }
        ElectionTabulator withdrawn = Check.election(8, 1, "!hgfedcba;");
        withdrawn.withdraw(7);
        withdrawn.withdraw(0);
        Check.is("the last one that is not withdrawn", withdrawn.round(0, 4), 1);
        Check.is("the first one that is not withdrawn", withdrawn.elected(0), 6);
    }

    /** Promise 13: "5 it was excluded by lot, also among those that other rounds left" */
    private static void lotAmongThoseThatAreLeft() {
        ElectionTabulator x = Check.election(6, 1, "60:a;5:b;5:c;8:d;1:eb;1:ec;2:fbc;2:fcb;");
        x.set(0, 1);
        Check.round(x, 0, Check.row(840000, 0, 0, 2, 4, 20000, 0), 600000, 50000, 50000, 80000, 20000, 40000);
        Check.round(x, 1, Check.row(840000, 0, 0, 2, 5, 40000, 0), 600000, 60000, 60000, 80000, 0, 40000);
        // Round 1 leaves b and c of the three, which are equal in round 0 too.
        Check.round(x, 2, Check.row(840000, 0, 0, 2, 2, 80000, 0), 600000, 80000, 80000, 80000, 0, 0);
        Check.fate(x, 2, 2, 2, -1, 5, -1, 0);
        Check.read(x, "!acbdef;");
        Check.fate(x, 1, 2, 2, -1, 5, -1, 0);
        x.set(2, 1);
        Check.fate(x, 1, 2, 2, -1, 5, -1, 0);
    }

    /** Ties: "The votes of a candidate in a round are those told by the method votes." */
    private static void votesAsTheMethodTells() {
        ElectionTabulator x = Check.election(5, 3, "18:b;17:c;4:db;5:dc;16:a;17:e;!acbed;");
        Check.is("votes of b before", x.votes(0, 1), 180000);
        Check.is("votes of c before", x.votes(0, 2), 170000);
        Check.is("votes of b", x.votes(1, 1), 220000);
        Check.is("votes of c", x.votes(1, 2), 220000);
        Check.is("the one that had more before is transferred first", x.round(1, 4), 1);
        Check.is("then the other one", x.round(2, 4), 2);
    }

    /** Promise 13: "- `what`: 0 for its status in the end: 0 hopeful, 1 elected, 2 excluded, 3 withdrawn" */
    private static void everyStatus() {
        ElectionTabulator x = Check.election(8, 1, "9:h;1:b;2:c;");
        x.withdraw(0);
        int[] due = {3, 0, 0, 0, 0, 0, 0, 1};
        for (int c = 0; c < 8; c++) {
            Check.is("status of " + c, x.candidate(c, 0), due[c]);
        }
        x.set(0, 1);
        int[] dueWithoutQuota = {3, 2, 2, 2, 2, 2, 2, 1};
        for (int c = 0; c < 8; c++) {
            Check.is("status of " + c, x.candidate(c, 0), dueWithoutQuota[c]);
        }
    }

    /** Promise 13: "1 for the round in which it was elected or excluded, or -1" */
    private static void roundOrNone() {
        ElectionTabulator x = Check.election(8, 1);
        for (int c = 0; c < 8; c++) {
            Check.is("round of " + c, x.candidate(c, 1), c == 0 ? 7 : 7 - c);
        }
        x.set(0, 1);
        for (int c = 0; c < 8; c++) {
            Check.is("round of " + c, x.candidate(c, 1), c == 0 ? 0 : -1);
        }
        x.withdraw(0);
        Check.is("round of a withdrawn one", x.candidate(0, 1), -1);
        Check.is("round of the next one", x.candidate(1, 1), 0);
    }

    /**
     * Promise 13: "2 for its place among the elected candidates, in the order in which they were elected, from 0, or
     * -1"
     */
    private static void placeOrNone() {
        ElectionTabulator x = Check.election(8, 7, "!hgfedcba;");
        for (int c = 0; c < 8; c++) {
            Check.is("place of " + c, x.candidate(c, 2), 7 - c < 7 ? 7 - c : -1);
        }
        x.withdraw(7);
        for (int c = 0; c < 8; c++) {
            Check.is("place of " + c, x.candidate(c, 2), c < 7 ? 6 - c : -1);
        }
        x.set(3, 1);
        Check.is("place of the only one", x.candidate(6, 2), 0);
        Check.is("place of an excluded one", x.candidate(5, 2), -1);
    }

    /**
     * Promise 13: "3 for the reason: 0 none; 1 it had the quota; 2 it was elected because there were not more hopeful
     * candidates than free seats; 3 it had the fewest votes; 4 it was excluded by a tie that another round broke"
     */
    private static void everyReason() {
        ElectionTabulator x = Check.election(4, 1, "3:a;2:b;1:ca;");
        x.withdraw(3);
        int[] due = {1, 0, 3, 0};
        for (int c = 0; c < 4; c++) {
            Check.is("reason of " + c, x.candidate(c, 3), due[c]);
        }
        ElectionTabulator ties = changing(1, 0);
        int[] dueWithTies = {4, 2, 3, 3};
        for (int c = 0; c < 4; c++) {
            Check.is("reason of " + c, ties.candidate(c, 3), dueWithTies[c]);
        }
        ElectionTabulator lots = new ElectionTabulator();
        int[] dueByLot = {2, 5, 5};
        for (int c = 0; c < 3; c++) {
            Check.is("reason of " + c, lots.candidate(c, 3), dueByLot[c]);
        }
        lots.set(0, 1);
        lots.withdraw(2);
        Check.is("none for one that is hopeful now", lots.candidate(1, 3), 0);
        Check.is("none for one that is withdrawn now", lots.candidate(2, 3), 0);
    }

    /** Promise 13: "4 for the round that was looked at last for this tie, if the reason is 4, otherwise -1" */
    private static void roundLookedAtLast() {
        Check.is("the latest round", changing(1, 0).candidate(0, 4), 1);
        Check.is("the earliest round", changing(1, 1).candidate(1, 4), 0);
        Check.is("an elected one", changing(1, 0).candidate(1, 4), -1);
        Check.is("one with the fewest votes", changing(1, 0).candidate(2, 4), -1);
        Check.is("one that was excluded by lot", new ElectionTabulator().candidate(2, 4), -1);
        ElectionTabulator narrowed = Check.election(6, 1, "60:a;5:b;4:c;8:d;1:eb;2:ec;2:fbc;2:fcb;");
        narrowed.set(0, 1);
        Check.fate(narrowed, 2, 2, 2, -1, 4, 0, 0);
        narrowed.withdraw(2);
        Check.is("a withdrawn one", narrowed.candidate(2, 4), -1);
    }

    /** Promise 13: "5 for its votes in the last round" */
    private static void votesInTheLastRound() {
        ElectionTabulator x = Check.election(4, 2, "9:abc;3:ba;4:cd;2:d;1:bd;");
        int last = x.rounds() - 1;
        for (int c = 0; c < 4; c++) {
            Check.is("votes of " + c, x.candidate(c, 5), x.votes(last, c));
        }
        Check.is("votes of an elected one", x.candidate(0, 5), 70000);
        Check.is("votes of an excluded one", x.candidate(3, 5), 0);
        x.set(3, 1);
        x.withdraw(0);
        Check.is("votes of a withdrawn one", x.candidate(0, 5), 0);
    }

    /** Promise 13: "Throws `IndexOutOfBoundsException` if there is no such candidate" */
    private static void noSuchCandidate() {
        for (int candidates = 2; candidates <= 8; candidates++) {
            ElectionTabulator x = Check.election(candidates, 1);
            int one = candidates;
            Check.is("the last one", x.candidate(one - 1, 0), 2);
            for (int wrong : new int[] {-1, one, 8, LEAST, GREATEST}) {
                Check.outOfBounds("candidate(" + wrong + ", 0)", () -> x.candidate(wrong, 0));
                Check.outOfBounds("candidate(" + wrong + ", 6)", () -> x.candidate(wrong, 6));
            }
        }
        Twins.refuse("candidate(-1, 5)", IndexOutOfBoundsException.class, Twins::rich, x -> x.candidate(-1, 5));
    }

    /** Promise 13: "Throws `IllegalArgumentException` if there is no such what" */
    private static void noSuchNumber() {
        for (int wrong : new int[] {-1, 6, 7, 10, LEAST, GREATEST}) {
            Twins.refuse("candidate(0, " + wrong + ")", IllegalArgumentException.class, Twins::rich,
                x -> x.candidate(0, wrong));
            Check.illegalArgument("candidate(2, " + wrong + ")", () -> new ElectionTabulator().candidate(2, wrong));
        }
    }

    /** Promise 14: "- `place`: its place, from 0" */
    private static void firstAndLastPlace() {
        for (int seats = 1; seats <= 7; seats++) {
            ElectionTabulator x = Check.election(8, seats, "!hgfedcba;");
            for (int place = 0; place < seats; place++) {
                Check.is("elected(" + place + ")", x.elected(place), 7 - place);
                Check.is("its place", x.candidate(7 - place, 2), place);
            }
        }
    }

    /** Promise 14: "Throws `NoSuchElementException` if there is no such place" */
    private static void noSuchPlace() {
        for (int candidates = 2; candidates <= 8; candidates++) {
            for (int seats = 1; seats <= 7; seats++) {
                ElectionTabulator x = Check.election(candidates, seats);
                int elected = Math.min(candidates, seats);
                for (int wrong : new int[] {-1, elected, 7, 8, LEAST, GREATEST}) {
                    Check.fails("elected(" + wrong + ")", NoSuchElementException.class, () -> x.elected(wrong));
                }
            }
        }
        ElectionTabulator nobody = Check.election(2, 7);
        nobody.withdraw(0);
        nobody.withdraw(1);
        Check.fails("elected(0) of nobody", NoSuchElementException.class, () -> nobody.elected(0));
        Twins.refuse("elected(2)", NoSuchElementException.class, Twins::rich, x -> x.elected(2));
        Twins.refuse("elected(-1)", NoSuchElementException.class, Twins::rich, x -> x.elected(-1));
    }
}
