/** The bounds of promises 17 to 22: preferring, beatsAll, points, declare, recount, needed. */
public final class BoundsPairsTest {
    private static final int LEAST = Integer.MIN_VALUE;
    private static final int GREATEST = Integer.MAX_VALUE;
    private static final String FOUR_PILES = "99:ab;99:ab;99:ab;99:ab;";

    public static void main(String[] args) {
        papersThatPrefer();
        noSuchCandidateToPrefer();
        morePapersThanTheOtherWayRound();
        onlyOneOrNone();
        sumOfPoints();
        noSuchCandidateWithPoints();
        inPlaceOfAnEarlierOne();
        numberOfDeclaredCandidates();
        differentStatuses();
        firstDifferentPlace();
        firstDifferentRound();
        noSuchComparison();
        nothingIsDeclared();
        leastNumberOfPapers();
        nothingChanges();
        limitOfPiles();
        noneToSixtyOrNotAtAll();
        noSuchCandidateToNeed();
        Check.end();
    }

    private static ElectionTabulator withAllPapers(int candidates) {
        return Check.election(candidates, 1, FOUR_PILES, FOUR_PILES, FOUR_PILES, FOUR_PILES, FOUR_PILES, FOUR_PILES);
    }

    /** Promise 17: "Returns how many papers prefer a candidate to another one, withdrawn or not." */
    private static void papersThatPrefer() {
        ElectionTabulator none = new ElectionTabulator();
        Check.is("no papers", none.preferring(0, 2), 0);
        ElectionTabulator all = withAllPapers(8);
        Check.is("all papers", all.preferring(0, 7), 2376);
        Check.is("no paper of them", all.preferring(7, 0), 0);
        all.withdraw(0);
        Check.is("a withdrawn one to another one", all.preferring(0, 1), 2376);
        all.withdraw(1);
        Check.is("a withdrawn one to a withdrawn one", all.preferring(0, 1), 2376);
        all.withdraw(0);
        Check.is("one to a withdrawn one", all.preferring(0, 1), 2376);
        ElectionTabulator some = Check.election(3, 1, "0:ab;1:ab;4:ba;16:c;64:a;");
        Check.is("a to b", some.preferring(0, 1), 65);
        Check.is("b to a", some.preferring(1, 0), 4);
    }

    /** Promise 17: "Throws `IndexOutOfBoundsException` if there is no such candidate" */
    private static void noSuchCandidateToPrefer() {
        for (int candidates = 2; candidates <= 8; candidates++) {
            ElectionTabulator x = Check.election(candidates, 1, "1:a;");
            int last = candidates - 1;
            Check.is("the first one and the last one", x.preferring(0, last), 1);
            Check.is("the last one and the first one", x.preferring(last, 0), 0);
            for (int wrong : new int[] {-1, candidates, 8, LEAST, GREATEST}) {
                Check.outOfBounds("preferring(" + wrong + ", 0)", () -> x.preferring(wrong, 0));
                Check.outOfBounds("preferring(last, " + wrong + ")", () -> x.preferring(last, wrong));
                Check.outOfBounds("preferring(" + wrong + ", itself)", () -> x.preferring(wrong, wrong));
            }
        }
        Twins.refuse("preferring(4, 4)", IndexOutOfBoundsException.class, Twins::rich, x -> x.preferring(4, 4));
    }

    /**
     * Promise 18: "Returns the candidate that is not withdrawn and that more papers prefer to each other one that is
     * not withdrawn than the other way round."
     */
    private static void morePapersThanTheOtherWayRound() {
        ElectionTabulator x = Check.election(3, 1, "2:ab;1:ba;1:b;0:c;");
        Check.is("as many both ways", x.beatsAll(), -1);
        Check.read(x, "#0=3;");
        Check.is("one more for a", x.beatsAll(), 0);
        Check.read(x, "#0=1;");
        Check.is("one more for b", x.beatsAll(), 1);
        Check.read(x, "#0=3;#3=4;");
        Check.is("as many for c as for a", x.beatsAll(), -1);
        x.withdraw(2);
        Check.is("a withdrawn one does not matter", x.beatsAll(), 0);
        x.withdraw(2);
        x.withdraw(0);
        Check.is("b beats c", x.beatsAll(), 1);
        ElectionTabulator last = Check.election(8, 1, "1:h;");
        Check.is("the last candidate", last.beatsAll(), 7);
        last.withdraw(7);
        Check.is("a withdrawn one that beats all", last.beatsAll(), -1);
        Check.is("a circle", Check.election(3, 1, "2:abc;2:bca;2:cab;").beatsAll(), -1);
    }

    /**
     * Promise 18: "Returns the candidate, also if it is the only one that is not withdrawn, or -1 if there is none."
     */
    private static void onlyOneOrNone() {
        for (int candidates = 2; candidates <= 8; candidates++) {
            for (int only = 0; only < candidates; only++) {
                ElectionTabulator x = Check.election(candidates, 1);
                for (int c = 0; c < candidates; c++) {
                    if (c != only) {
                        Check.is("nobody among several without papers", x.beatsAll(), -1);
                        x.withdraw(c);
                    }
                }
                Check.is("the only one", x.beatsAll(), only);
                x.withdraw(only);
                Check.is("nobody", x.beatsAll(), -1);
            }
        }
    }

    /**
     * Promise 19: "Returns the points of a candidate: the sum, over all papers, of the number of candidates to which
     * the paper prefers it."
     */
    private static void sumOfPoints() {
        Check.is("no papers", new ElectionTabulator().points(2), 0);
        ElectionTabulator all = withAllPapers(8);
        Check.is("the most points", all.points(0), 16632);
        Check.is("the second place", all.points(1), 14256);
        Check.is("one that is in no ranking", all.points(7), 0);
        all.withdraw(7);
        all.withdraw(1);
        Check.is("withdrawn ones count", all.points(0), 16632);
        Check.is("points of a withdrawn one", all.points(1), 14256);
        Check.is("two candidates", withAllPapers(2).points(0), 2376);
        Check.is("the last one of two", withAllPapers(2).points(1), 0);
        ElectionTabulator x = Check.election(8, 1, "1:hgfedcba;0:abcdefgh;2:c;");
        int[] due = {0, 1, 16, 3, 4, 5, 6, 7};
        for (int c = 0; c < 8; c++) {
            Check.is("points of " + c, x.points(c), due[c]);
        }
    }

    /** Promise 19: "Throws `IndexOutOfBoundsException` if there is no such candidate" */
    private static void noSuchCandidateWithPoints() {
        for (int candidates = 2; candidates <= 8; candidates++) {
            ElectionTabulator x = Check.election(candidates, 1, "1:b;");
            Check.is("the first one", x.points(0), 0);
            Check.is("the last one", x.points(candidates - 1), candidates == 2 ? 1 : 0);
            for (int wrong : new int[] {-1, candidates, 8, LEAST, GREATEST}) {
                Check.outOfBounds("points(" + wrong + ")", () -> x.points(wrong));
            }
        }
        Twins.refuse("points(-1)", IndexOutOfBoundsException.class, Twins::rich, x -> x.points(-1));
    }

    /** Promise 20: "Declares the present result, in place of an earlier one." */
    private static void inPlaceOfAnEarlierOne() {
        ElectionTabulator x = Check.election(3, 1, "3:a;2:b;");
        x.declare();
        recounts(x, 0, -1, -1);
        Check.read(x, "#1=4;");
        recounts(x, 2, 0, 0);
        x.declare();
        recounts(x, 0, -1, -1);
        x.undo();
        recounts(x, 2, 0, 0);
        x.declare();
        x.declare();
        recounts(x, 0, -1, -1);
        Check.is("declare can not be undone", x.count(5), 1);
    }

    private static void recounts(ElectionTabulator x, int statuses, int place, int round) {
        Check.is("recount(0)", x.recount(0), statuses);
        Check.is("recount(1)", x.recount(1), place);
        Check.is("recount(2)", x.recount(2), round);
    }

    /** Promise 20: "Returns the number of elected candidates." */
    private static void numberOfDeclaredCandidates() {
        for (int seats = 1; seats <= 7; seats++) {
            Check.is("declare of eight", Check.election(8, seats).declare(), seats);
            Check.is("declare of two", Check.election(2, seats).declare(), Math.min(2, seats));
        }
        ElectionTabulator nobody = Check.election(2, 1);
        nobody.withdraw(0);
        nobody.withdraw(1);
        Check.is("declare of nobody", nobody.declare(), 0);
        nobody.withdraw(1);
        recounts(nobody, 1, 0, -1);
    }

    /** Promise 21: "- `what`: 0 for the number of candidates whose status in the end is different" */
    private static void differentStatuses() {
        for (int candidates = 2; candidates <= 8; candidates++) {
            ElectionTabulator x = Check.election(candidates, 7);
            x.declare();
            Check.is("none is different", x.recount(0), 0);
            for (int c = 0; c < candidates; c++) {
                x.withdraw(c);
                int different = candidates == 8 && c < 7 ? c + 2 : c + 1;
                Check.is("different ones", x.recount(0), different);
            }
        }
        ElectionTabulator x = Check.election(3, 1, "3:a;2:b;1:c;");
        x.set(0, 1);
        x.declare();
        Check.read(x, "#0=4;#1=1;#2=2;!acb;");
        Check.is("the same statuses in another way", x.recount(0), 0);
    }

    /**
     * Promise 21: "1 for the first place at which other candidates were elected, or the smaller number of elected
     * candidates if they agree up to there and the numbers are different, or -1 if the elected candidates and their
     * order are the same"
     */
    private static void firstDifferentPlace() {
        ElectionTabulator x = Check.election(8, 7);
        x.declare();
        Check.is("the same", x.recount(1), -1);
        for (int seats = 1; seats <= 6; seats++) {
            x.set(3, seats);
            Check.is("fewer", x.recount(1), seats);
        }
        x.set(3, 7);
        Check.is("the same again", x.recount(1), -1);
        Check.read(x, "!abcdefhg;");
        Check.is("the last place", x.recount(1), 6);
        Check.read(x, "!bacdefgh;");
        Check.is("the first place", x.recount(1), 0);
        Check.is("the same statuses all the same", x.recount(0), 0);
        Check.read(x, "!abdcefgh;");
        Check.is("a place in the middle, in fewer too", x.recount(1), 2);
        x.set(3, 2);
        Check.is("fewer, and the same up to there", x.recount(1), 2);
        x.declare();
        x.set(3, 5);
        Check.is("more", x.recount(1), 2);
        ElectionTabulator nobody = Check.election(2, 1);
        nobody.declare();
        nobody.withdraw(0);
        nobody.withdraw(1);
        Check.is("nobody now", nobody.recount(1), 0);
    }

    /**
     * Promise 21: "2 for the first round in which the votes of a candidate, withdrawn or not, are different, or which
     * only one of both results has, or -1 if there is none"
     */
    private static void firstDifferentRound() {
        ElectionTabulator x = Check.election(8, 1, "8:a;7:b;6:c;5:d;4:e;3:f;2:g;0:h;");
        x.set(0, 1);
        Check.is("rounds", x.rounds(), 8);
        x.declare();
        Check.is("the same", x.recount(2), -1);
        x.set(3, 7);
        Check.is("the second of two rounds is the same, the third one is only there", x.recount(2), 1);
        x.declare();
        x.set(3, 1);
        Check.is("the same the other way", x.recount(2), 1);
        x.declare();
        x.withdraw(7);
        Check.is("g goes a round earlier", x.recount(2), 1);
        x.withdraw(6);
        Check.is("the votes of a withdrawn one", x.recount(2), 0);
        x.withdraw(7);
        x.withdraw(6);
        Check.read(x, "~1:ba;");
        Check.is("the last round", x.recount(2), 7);
        Check.read(x, "#7=1;");
        Check.is("the first round", x.recount(2), 0);
    }

    /** Promise 21: "Throws `IllegalArgumentException` if there is no such what" */
    private static void noSuchComparison() {
        for (int wrong : new int[] {-1, 3, 4, 10, LEAST, GREATEST}) {
            Twins.refuse("recount(" + wrong + ")", IllegalArgumentException.class, Twins::rich, x -> x.recount(wrong));
            Twins.refuse("recount(" + wrong + ") of nothing", IllegalArgumentException.class, ElectionTabulator::new,
                x -> x.recount(wrong));
        }
    }

    /** Promise 21: "Throws `IllegalStateException` if nothing is declared" */
    private static void nothingIsDeclared() {
        for (int what = 0; what < 3; what++) {
            int number = what;
            ElectionTabulator x = new ElectionTabulator();
            x.save();
            Check.illegalState("recount of a new object", () -> x.recount(number));
            x.declare();
            Check.is("recount", x.recount(number), what == 0 ? 0 : -1);
            x.set(0, 1);
            x.undo();
            Check.is("recount after undo", x.recount(number), what == 0 ? 0 : -1);
            x.restore();
            Check.illegalState("recount after restore", () -> x.recount(number));
            x.declare();
            x.begin(3, 1);
            Check.illegalState("recount after begin", () -> x.recount(number));
            Twins.refuse("recount(" + what + ")", IllegalStateException.class, ElectionTabulator::new,
                y -> y.recount(number));
        }
    }

    /**
     * Promise 22: "Returns the least number of additional papers with which a candidate would be elected, if they were
     * a pile behind all others whose ranking consists of this candidate only."
     */
    private static void leastNumberOfPapers() {
        ElectionTabulator x = Check.election(4, 2, "9:abc;3:ba;4:cd;2:d;1:bd;");
        int[] due = {0, 0, 2, 3};
        for (int c = 0; c < 4; c++) {
            Check.is("needed(" + c + ")", x.needed(c), due[c]);
            x.save();
            if (due[c] > 0) {
                String letter = String.valueOf((char) ('a' + c));
                Check.read(x, (due[c] - 1) + ":" + letter + ";");
                Check.is("with one fewer it is not elected", x.candidate(c, 0) == 1 ? 1 : 0, 0);
                Check.is("one more is needed", x.needed(c), 1);
                Check.read(x, "#5=" + due[c] + ";");
                Check.is("with so many it is elected", x.candidate(c, 0), 1);
                Check.is("no more are needed", x.needed(c), 0);
            }
            x.restore();
        }
    }

    /** Promise 22: "Nothing changes" */
    private static void nothingChanges() {
        for (int candidate = 0; candidate < 4; candidate++) {
            ElectionTabulator x = Twins.rich();
            x.needed(candidate);
            Check.isText("after needed", Check.dump(x), Check.dump(Twins.rich()));
            x.append(';');
            x.execute();
            ElectionTabulator y = Twins.rich();
            y.append(';');
            y.execute();
            Check.isText("after needed and execute", Check.dump(x), Check.dump(y));
            Check.is("calls to undo", x.undo(), 6);
            Check.is("the snapshot", x.restore(), 2);
        }
    }

    /** Promise 22: "the limit of piles does not matter here." */
    private static void limitOfPiles() {
        String four = "1:a;1:a;1:a;1:a;";
        ElectionTabulator x = Check.election(3, 1, four, four, four, four, four, "1:a;1:a;1:a;");
        Check.is("with 23 piles", x.needed(2), 24);
        Check.read(x, "1:a;");
        Check.is("with 24 piles", x.needed(2), 25);
        Check.is("with 24 piles of another one", x.needed(1), 25);
        Check.is("piles", x.count(1), 24);
        Check.is("papers", x.count(2), 24);
        Check.errorAt(x, "1:a;", 0);
    }

    /**
     * Promise 22: "Returns the number, 0 if it is elected now, at most 60, or -1 if it is not elected with any of these
     * numbers."
     */
    private static void noneToSixtyOrNotAtAll() {
        ElectionTabulator x = Check.election(2, 1, "0:a;");
        Check.is("0", x.needed(0), 0);
        // The lot is against b: it needs one paper more than a has.
        for (int papers = 0; papers <= 99; papers++) {
            Check.read(x, "#0=" + papers + ";");
            Check.is("against " + papers, x.needed(1), papers < 60 ? papers + 1 : -1);
        }
        ElectionTabulator withdrawn = new ElectionTabulator();
        withdrawn.withdraw(2);
        Check.is("a withdrawn one", withdrawn.needed(2), -1);
        Check.is("the one that is elected", withdrawn.needed(0), 0);
        Check.is("the one that is not", withdrawn.needed(1), 1);
        ElectionTabulator seats = Check.election(8, 7);
        Check.is("the last one that is elected", seats.needed(6), 0);
        Check.is("the one that is not", seats.needed(7), 1);
    }

    /** Promise 22: "Throws `IndexOutOfBoundsException` if there is no such candidate" */
    private static void noSuchCandidateToNeed() {
        for (int candidates = 2; candidates <= 8; candidates++) {
            ElectionTabulator x = Check.election(candidates, 1);
            Check.is("the last one", x.needed(candidates - 1), 1);
            for (int wrong : new int[] {-1, candidates, 8, LEAST, GREATEST}) {
                Check.outOfBounds("needed(" + wrong + ")", () -> x.needed(wrong));
            }
        }
        Twins.refuse("needed(4)", IndexOutOfBoundsException.class, Twins::rich, x -> x.needed(4));
    }
}
