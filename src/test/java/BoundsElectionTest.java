import java.util.NoSuchElementException;

/**
 * The bounds of the head, the Description and its parts Election and Ballots; of promise 1, a new object, and 2, begin.
 */
public final class BoundsElectionTest {
    private static final int[] FAR = {Integer.MIN_VALUE, Integer.MAX_VALUE};

    public static void main(String[] args) {
        lastOf512Calls();
        stateAfterRefusedCalls();
        stateAfterRefusedCallsOfANewObject();
        firstListedException();
        twoToEightCandidates();
        oneToSevenSeats();
        withdrawnFromNoneToAll();
        lotOfAllCandidates();
        twentyFourPiles();
        sizesOfPiles();
        lengthsOfRankings();
        prefers();
        worthOfPapers();
        newObject();
        anotherElection();
        whatStaysAtBegin();
        candidatesOfBegin();
        seatsOfBegin();
        previousNumber();
        refusedBegin();
        Check.end();
    }

    /** Head: "An object is used for at most 512 calls after it has been made" */
    private static void lastOf512Calls() {
        Check.is("set as the 512th call", after511Calls().set(3, 2), 1);
        Check.is("count as the 512th call", after511Calls().count(5), 8);
        Check.is("undo as the 512th call", after511Calls().undo(), 7);
        Check.is("rounds as the 512th call", after511Calls().rounds(), 3);
        Check.is("needed as the 512th call", after511Calls().needed(2), 1);
        Check.is("append as the 512th call", after511Calls().append('a'), 1);
        Check.illegalArgument("execute as the 512th call", () -> after511Calls().execute());
        Check.illegalState("restore as the 512th call", () -> after511Calls().restore());
    }

    private static ElectionTabulator after511Calls() {
        ElectionTabulator x = new ElectionTabulator();
        for (int call = 1; call <= 511; call++) {
            x.set(3, 1 + call % 7);
        }
        return x;
    }

    /**
     * Description: "A method that throws an exception leaves the state unchanged, unless its description says
     * otherwise."
     */
    private static void stateAfterRefusedCalls() {
        Class<IllegalArgumentException> argument = IllegalArgumentException.class;
        Class<IndexOutOfBoundsException> bounds = IndexOutOfBoundsException.class;
        Twins.refuse("begin(9, 1)", argument, Twins::rich, x -> x.begin(9, 1));
        Twins.refuse("begin(2, 0)", argument, Twins::rich, x -> x.begin(2, 0));
        Twins.refuse("append of a wrong byte", argument, Twins::rich, x -> x.append('a' << 24 | 127));
        Twins.refuse("set(4, 1)", argument, Twins::rich, x -> x.set(4, 1));
        Twins.refuse("set(0, 4)", argument, Twins::rich, x -> x.set(0, 4));
        Twins.refuse("withdraw(4)", bounds, Twins::rich, x -> x.withdraw(4) ? 1 : 0);
        Twins.refuse("pile(5, 0)", bounds, Twins::rich, x -> x.pile(5, 0));
        Twins.refuse("pile(0, 2)", argument, Twins::rich, x -> x.pile(0, 2));
        Twins.refuse("character(0, 6)", bounds, Twins::rich, x -> x.character(0, 6));
        Twins.refuse("votes(0, 4)", bounds, Twins::rich, x -> x.votes(0, 4));
        Twins.refuse("round(-1, 0)", bounds, Twins::rich, x -> x.round(-1, 0));
        Twins.refuse("round(0, 7)", argument, Twins::rich, x -> x.round(0, 7));
        Twins.refuse("candidate(4, 0)", bounds, Twins::rich, x -> x.candidate(4, 0));
        Twins.refuse("candidate(0, 6)", argument, Twins::rich, x -> x.candidate(0, 6));
        Twins.refuse("elected(2)", NoSuchElementException.class, Twins::rich, x -> x.elected(2));
        Twins.refuse("where(0, 5, 0)", bounds, Twins::rich, x -> x.where(0, 5, 0));
        Twins.refuse("where(0, 0, 2)", argument, Twins::rich, x -> x.where(0, 0, 2));
        Twins.refuse("share(0, 4)", bounds, Twins::rich, x -> (long) x.share(0, 4));
        Twins.refuse("preferring(0, 4)", bounds, Twins::rich, x -> x.preferring(0, 4));
        Twins.refuse("points(4)", bounds, Twins::rich, x -> x.points(4));
        Twins.refuse("recount(3)", argument, Twins::rich, x -> x.recount(3));
        Twins.refuse("needed(4)", bounds, Twins::rich, x -> x.needed(4));
        Twins.refuse("count(7)", argument, Twins::rich, x -> x.count(7));
    }

    /**
     * Description: "A method that throws an exception leaves the state unchanged" also where there is next to nothing.
     */
    private static void stateAfterRefusedCallsOfANewObject() {
        Class<IllegalStateException> state = IllegalStateException.class;
        Twins.refuse("undo()", state, ElectionTabulator::new, ElectionTabulator::undo);
        Twins.refuse("restore()", state, ElectionTabulator::new, ElectionTabulator::restore);
        Twins.refuse("recount(0)", state, ElectionTabulator::new, x -> x.recount(0));
        Twins.refuse("share(0, 0)", ArithmeticException.class, ElectionTabulator::new, x -> (long) x.share(0, 0));
        Twins.refuse("pile(0, 0)", IndexOutOfBoundsException.class, ElectionTabulator::new, x -> x.pile(0, 0));
        Twins.refuse("append to a full buffer", state, BoundsElectionTest::withFullBuffer, x -> x.append(';' << 8));
    }

    private static ElectionTabulator withFullBuffer() {
        ElectionTabulator x = Twins.rich();
        Check.type(x, ":a;" + "1:a;1:a;1:a;1:a;1:a;1:a;1:a;1:a;1:a;1:a;1:a;1:a;1:a;" + "1:");
        return x;
    }

    /**
     * Description: "If several exceptions are possible, the one listed first in the description of the method is
     * thrown."
     */
    private static void firstListedException() {
        ElectionTabulator full = withFullBuffer();
        Check.is("a full buffer", full.count(6), 60);
        Check.illegalArgument("append of a wrong byte to a full buffer", () -> full.append('a' << 8 | 32));
        ElectionTabulator x = new ElectionTabulator();
        Check.outOfBounds("pile without a pile and a what", () -> x.pile(0, 2));
        Check.outOfBounds("round without a round and a what", () -> x.round(3, 7));
        Check.outOfBounds("candidate without a candidate and a what", () -> x.candidate(3, 6));
        Check.outOfBounds("where without a round, a pile and a what", () -> x.where(3, 0, 2));
        Check.outOfBounds("where without a pile and a what", () -> x.where(0, 0, 2));
        Check.outOfBounds("share without a round and papers", () -> (long) x.share(3, 0));
        Check.outOfBounds("share without a candidate and papers", () -> (long) x.share(0, 3));
        Check.illegalArgument("recount without a what and a declared result", () -> x.recount(3));
    }

    /** Election: "There are 2 to 8 candidates, at first 3, numbered from 0 and written as the letters a to h" */
    private static void twoToEightCandidates() {
        String letters = "abcdefghi";
        for (int candidates = 2; candidates <= 8; candidates++) {
            ElectionTabulator x = new ElectionTabulator();
            if (candidates != 3) {
                x.begin(candidates, 1);
            }
            int last = candidates - 1;
            Check.is("the number of candidates", x.count(0), candidates);
            Check.is("a, the first letter", Check.read(x, "1:a;"), 1);
            Check.is("the candidate a", x.pile(0, 10), 0);
            Check.is("the last letter", Check.read(x, "1:" + letters.charAt(last) + ";"), 1);
            Check.is("the last candidate", x.pile(1, 10), last);
            Check.errorAt(x, "1:" + letters.charAt(candidates) + ";", 2);
            Check.errorAt(x, "1:`;", 2);
            Check.errorAt(x, "1:A;", 2);
            Check.is("status of the first one", x.candidate(0, 0), 1);
            Check.is("points of the last one", x.points(last), candidates - 1);
            Check.outOfBounds("points of one more", () -> x.points(last + 1));
            Check.outOfBounds("points of -1", () -> x.points(-1));
        }
    }

    /** Election: "and 1 to 7 seats, at first 1." */
    private static void oneToSevenSeats() {
        Check.is("seats at first", new ElectionTabulator().count(13), 1);
        Check.is("elected at first", new ElectionTabulator().count(3), 1);
        for (int seats = 1; seats <= 7; seats++) {
            ElectionTabulator begun = Check.election(8, seats);
            Check.is("seats of begin", begun.count(13), seats);
            Check.is("elected for them", begun.count(3), seats);
            ElectionTabulator set = Check.election(8, 8 - seats);
            set.set(3, seats);
            Check.is("seats of set", set.count(13), seats);
            Check.is("elected for them", set.count(3), seats);
        }
        ElectionTabulator x = new ElectionTabulator();
        for (int wrong : new int[] {0, 8}) {
            Check.illegalArgument("begin with " + wrong + " seats", () -> x.begin(3, wrong));
            Check.illegalArgument("set of " + wrong + " seats", () -> x.set(3, wrong));
        }
    }

    /** Election: "A candidate can be withdrawn." */
    private static void withdrawnFromNoneToAll() {
        for (int candidates = 2; candidates <= 8; candidates++) {
            ElectionTabulator x = Check.election(candidates, 7);
            Check.is("none is withdrawn", x.count(4), 0);
            Check.is("all are elected", x.count(3), Math.min(7, candidates));
            for (int c = candidates - 1; c >= 0; c--) {
                Check.is("withdraw(" + c + ")", x.withdraw(c) ? 1 : 0, 1);
                Check.is("withdrawn", x.count(4), candidates - c);
                Check.is("elected are the others", x.count(3), c);
            }
        }
    }

    /** Election: "The lot is a sequence of all candidates, at first in ascending order." */
    private static void lotOfAllCandidates() {
        for (int candidates = 2; candidates <= 8; candidates++) {
            ElectionTabulator x = Check.election(candidates, 1);
            for (int place = 0; place < candidates; place++) {
                Check.is("the lot at first", x.count(20 + place), place);
            }
            String backwards = new StringBuilder("abcdefgh".substring(0, candidates)).reverse().toString();
            Check.read(x, "!" + backwards + ";");
            x.withdraw(0);
            for (int place = 0; place < candidates; place++) {
                Check.is("the lot backwards, withdrawn or not", x.count(20 + place), candidates - 1 - place);
            }
            Check.errorAt(x, "!" + backwards.substring(1) + ";", candidates);
        }
    }

    /** Ballots: "There are at most 24 piles, numbered from 0 in the order in which they were added." */
    private static void twentyFourPiles() {
        ElectionTabulator x = Check.election(8, 1);
        for (int p = 0; p < 24; p++) {
            int number = p;
            Check.outOfBounds("pile " + p + " before", () -> x.pile(number, 0));
            Check.is("one pile more", Check.read(x, p + ":" + (char) ('a' + p % 8) + ";"), 1);
            Check.is("piles", x.count(1), p + 1);
        }
        for (int p = 0; p < 24; p++) {
            Check.is("size of pile " + p, x.pile(p, 0), p);
            Check.is("first of pile " + p, x.pile(p, 10), p % 8);
        }
        Check.errorAt(x, "9:a;", 0);
        Check.outOfBounds("pile 24", () -> x.pile(24, 0));
        Check.outOfBounds("pile -1", () -> x.pile(-1, 0));
    }

    /** Ballots: "A pile has a size, 0 to 99, which is the number of its papers" */
    private static void sizesOfPiles() {
        ElectionTabulator x = Check.election(3, 1, "1:a;");
        for (int size = 0; size <= 99; size++) {
            Check.read(x, "#0=" + size + ";");
            Check.is("size", x.pile(0, 0), size);
            Check.is("papers", x.count(2), size);
        }
        Check.errorAt(x, "#0=100;", 5);
        Check.errorAt(x, "#0=-1;", 3);
        Check.read(x, "0:b;99:c;");
        Check.is("size of a new pile", x.pile(1, 0), 0);
        Check.is("size of a new pile", x.pile(2, 0), 99);
        Check.is("papers", x.count(2), 198);
        Check.errorAt(x, "100:c;", 2);
    }

    /** Ballots: "and a ranking, a sequence of 1 to 8 different candidates, the most preferred one first." */
    private static void lengthsOfRankings() {
        ElectionTabulator x = Check.election(8, 1);
        String ranking = "hgfedcba";
        for (int length = 1; length <= 8; length++) {
            Check.read(x, "1:" + ranking.substring(0, length) + ";");
            Check.is("length", x.pile(length - 1, 1), length);
            for (int k = 0; k < length; k++) {
                Check.is("place " + k, x.pile(length - 1, 10 + k), 7 - k);
            }
            Check.is("votes of the first one", x.votes(0, 7), 10000 * length);
        }
        Check.errorAt(x, "1:;", 2);
        Check.errorAt(x, "1:hgfedcbah;", 10);
        Check.errorAt(x, "1:hh;", 3);
        Check.errorAt(x, "1:hgfedcbb;", 9);
    }

    /**
     * Ballots: "A paper prefers a candidate to another one if the former stands before the latter in its ranking, or if
     * only the former is in it."
     */
    private static void prefers() {
        ElectionTabulator x = Check.election(5, 1, "1:abc;");
        Check.is("first to second", x.preferring(0, 1), 1);
        Check.is("second to first", x.preferring(1, 0), 0);
        Check.is("first to last", x.preferring(0, 2), 1);
        Check.is("last to first", x.preferring(2, 0), 0);
        Check.is("last to one that is not in it", x.preferring(2, 3), 1);
        Check.is("one that is not in it to the last", x.preferring(3, 2), 0);
        Check.is("two that are not in it", x.preferring(3, 4), 0);
        Check.is("two that are not in it", x.preferring(4, 3), 0);
        Check.is("one to itself", x.preferring(0, 0), 0);
        Check.is("one that is not in it to itself", x.preferring(3, 3), 0);
    }

    /**
     * Ballots: "Votes are counted in units; a paper is worth 10000 units at first, and all papers of a pile are always
     * worth the same and at the same place."
     */
    private static void worthOfPapers() {
        ElectionTabulator x = Check.election(2, 1, "0:a;1:b;");
        Check.is("worth of a paper", x.where(0, 1, 1), 10000);
        Check.is("worth in a pile without papers", x.where(0, 0, 1), 10000);
        Check.is("votes of no paper", x.votes(0, 0), 0);
        Check.is("votes of one paper", x.votes(0, 1), 10000);
        ElectionTabulator most = allPapersFor("a");
        Check.is("papers", most.count(2), 2376);
        Check.is("votes of all papers", most.votes(0, 0), 23760000);
    }

    /** 24 piles of 99 papers. */
    private static ElectionTabulator allPapersFor(String ranking) {
        ElectionTabulator x = Check.election(8, 1);
        for (int p = 0; p < 24; p++) {
            Check.read(x, "99:" + ranking + ";");
        }
        return x;
    }

    /** Promise 1: "Creates an election with 3 candidates and 1 seat, without ballots, with rule 0 for everything." */
    private static void newObject() {
        ElectionTabulator x = new ElectionTabulator();
        int[][] due = {{0, 3}, {1, 0}, {2, 0}, {3, 1}, {4, 0}, {5, 0}, {6, 0}, {10, 0}, {11, 0}, {12, 0}, {13, 1},
            {20, 0}, {21, 1}, {22, 2}};
        for (int[] d : due) {
            Check.is("count(" + d[0] + ") of a new object", x.count(d[0]), d[1]);
        }
        Check.illegalArgument("a place of the lot behind the third", () -> x.count(23));
        Check.outOfBounds("votes of a fourth candidate", () -> x.votes(0, 3));
        Check.outOfBounds("a pile", () -> x.pile(0, 0));
        Check.is("no text was read", x.errorPosition(), -1);
        Check.illegalState("nothing is declared", () -> x.recount(0));
        Check.illegalState("nothing is saved", x::restore);
        Check.illegalState("nothing can be undone", x::undo);
    }

    /**
     * Promise 2: "Begins another election: without ballots and withdrawn candidates, with the lot in ascending order."
     */
    private static void anotherElection() {
        ElectionTabulator x = allPapersFor("h");
        for (int c = 0; c < 8; c++) {
            x.withdraw(c);
        }
        Check.read(x, "!hgfedcba;");
        Check.is("nobody is elected", x.count(3), 0);
        x.begin(8, 7);
        Check.is("piles", x.count(1), 0);
        Check.is("papers", x.count(2), 0);
        Check.is("withdrawn", x.count(4), 0);
        for (int place = 0; place < 8; place++) {
            Check.is("the lot", x.count(20 + place), place);
        }
        Check.outOfBounds("pile(0, 0)", () -> x.pile(0, 0));
        Check.outOfBounds("where(0, 0, 0)", () -> x.where(0, 0, 0));
        for (int c = 0; c < 8; c++) {
            Check.is("votes", x.votes(0, c), 0);
            Check.is("points", x.points(c), 0);
            Check.is("status", x.candidate(c, 0), c < 7 ? 1 : 2);
        }
        Check.is("a first pile", Check.read(x, "5:g;"), 1);
        Check.is("its votes", x.votes(0, 6), 50000);
    }

    /**
     * Promise 2: "The rules, the buffer, the error position and the snapshot stay; nothing is declared, and nothing can
     * be undone."
     */
    private static void whatStaysAtBegin() {
        ElectionTabulator x = Twins.rich();
        Check.is("calls to undo before", x.count(5), 6);
        Check.is("what was declared before", x.recount(0), 2);
        x.begin(3, 5);
        Check.is("the rule of quotas", x.count(10), 3);
        Check.is("the rule of transfers", x.count(11), 1);
        Check.is("the rule of ties", x.count(12), 1);
        Check.is("the seats are those of begin", x.count(13), 5);
        Check.is("the length of the buffer", x.count(6), 3);
        Check.is("the error position", x.errorPosition(), 3);
        Check.is("calls to undo", x.count(5), 0);
        Check.illegalState("undo", x::undo);
        Check.illegalState("recount", () -> x.recount(0));
        x.append(';');
        x.execute();
        Check.isText("the text in the buffer", Check.textOf(x, 0), "2:b;");
        Check.is("the snapshot", x.restore(), 2);
        Check.is("its candidates", x.count(0), 4);
    }

    /** Promise 2: "- `candidates`: the number of candidates, 2 to 8" */
    private static void candidatesOfBegin() {
        ElectionTabulator x = new ElectionTabulator();
        int previous = 3;
        for (int candidates : new int[] {2, 8, 7, 3}) {
            Check.is("begin(" + candidates + ", 1)", x.begin(candidates, 1), previous);
            Check.is("candidates", x.count(0), candidates);
            Check.is("the place of the last one in the lot", x.count(19 + candidates), candidates - 1);
            Check.illegalArgument("a place of the lot behind it", () -> x.count(20 + candidates));
            previous = candidates;
        }
        for (int wrong : new int[] {1, 9, 0, -1, -2, -8}) {
            Twins.refuse("begin(" + wrong + ", 1)", IllegalArgumentException.class, Twins::rich,
                y -> y.begin(wrong, 1));
        }
    }

    /** Promise 2: "- `seats`: the number of seats, 1 to 7" */
    private static void seatsOfBegin() {
        ElectionTabulator x = new ElectionTabulator();
        for (int seats : new int[] {1, 7, 6, 2}) {
            x.begin(8, seats);
            Check.is("seats", x.count(13), seats);
            Check.is("elected", x.count(3), seats);
            x.begin(2, seats);
            Check.is("elected of two", x.count(3), Math.min(2, seats));
        }
        for (int wrong : new int[] {0, 8, -1, -7}) {
            Twins.refuse("begin(3, " + wrong + ")", IllegalArgumentException.class, Twins::rich,
                y -> y.begin(3, wrong));
        }
    }

    /** Promise 2: "Returns the previous number of candidates." */
    private static void previousNumber() {
        ElectionTabulator x = new ElectionTabulator();
        Check.is("begin of a new object", x.begin(2, 1), 3);
        Check.is("begin after two", x.begin(8, 1), 2);
        Check.illegalArgument("a refused begin", () -> x.begin(5, 8));
        Check.is("begin after eight", x.begin(8, 1), 8);
        x.save();
        x.begin(4, 1);
        x.restore();
        Check.is("begin after a restore", x.begin(3, 1), 8);
    }

    /** Promise 2: "Throws `IllegalArgumentException` if a number is out of range" */
    private static void refusedBegin() {
        int[][] wrong = {{1, 0}, {9, 8}, {1, 7}, {8, 0}, {2, 8}, {9, 1}, {FAR[0], 1}, {FAR[1], 1}, {2, FAR[0]},
            {2, FAR[1]}, {FAR[0], FAR[1]}, {258, 1}, {3, 257}};
        for (int[] w : wrong) {
            Twins.refuse("begin(" + w[0] + ", " + w[1] + ")", IllegalArgumentException.class, Twins::rich,
                x -> x.begin(w[0], w[1]));
        }
    }
}
