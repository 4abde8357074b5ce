/** Promises 1 and 2: a new object, begin. */
public final class BeginTest {
    public static void main(String[] args) {
        newObject();
        anotherElection();
        behindMorePiles();
        whatStays();
        wrongNumbers();
        Check.end();
    }

    private static void newObject() {
        ElectionTabulator x = new ElectionTabulator();
        Check.is("candidates", x.count(0), 3);
        for (int what : new int[] {1, 2, 4, 5, 6, 10, 11, 12}) {
            Check.is("count(" + what + ") of a new object", x.count(what), 0);
        }
        Check.is("seats", x.count(13), 1);
        for (int place = 0; place < 3; place++) {
            Check.is("lot", x.count(20 + place), place);
        }
        Check.is("error position", x.errorPosition(), -1);
        Check.is("rounds without ballots", x.rounds(), 3);
        Check.is("quota without papers", x.round(0, 0), 10000);
        Check.is("elected by lot", x.elected(0), 0);
        Check.illegalState("undo of a new object", x::undo);
        Check.illegalState("restore of a new object", x::restore);
        Check.illegalState("recount of a new object", () -> x.recount(0));
    }

    private static void anotherElection() {
        ElectionTabulator x = Check.election(4, 2, "3:ab;!dcba;");
        x.withdraw(1);
        Check.is("begin(8, 7)", x.begin(8, 7), 4);
        Check.is("begin(2, 1)", x.begin(2, 1), 8);
        Check.is("begin(3, 7)", x.begin(3, 7), 2);
        Check.is("candidates", x.count(0), 3);
        Check.is("seats", x.count(13), 7);
        Check.is("piles", x.count(1), 0);
        Check.is("withdrawn", x.count(4), 0);
        Check.is("status", x.candidate(1, 0), 1);
        for (int place = 0; place < 3; place++) {
            Check.is("lot", x.count(20 + place), place);
        }
        x.begin(8, 1);
        for (int place = 0; place < 8; place++) {
            Check.is("lot of 8", x.count(20 + place), place);
        }
    }

    /** The rows of the piles before must not count in another election. */
    private static void behindMorePiles() {
        for (int rule = 0; rule < 2; rule++) {
            ElectionTabulator x = Check.election(4, 1, "9:ab;9:ab;9:ab;9:ab;");
            x.set(1, rule);
            Check.is("all are with a", x.where(x.rounds() - 1, 3, 0), 0);
            x.begin(4, 2);
            Check.is("preferring without piles", x.preferring(0, 1), 0);
            Check.is("points without piles", x.points(0), 0);
            Check.read(x, "9:ab;3:b;2:c;4:d;");
            x.undo();
            Check.read(x, "9:ab;3:b;6:c;");
            ElectionTabulator fresh = Check.election(4, 2);
            fresh.set(1, rule);
            fresh.begin(4, 2);
            Check.read(fresh, "9:ab;3:b;6:c;");
            Check.is("preferring", x.preferring(0, 1), 9);
            Check.is("what happened", x.round(0, 3), 1);
            Check.isText("the same as in a fresh election", Check.dump(x), Check.dump(fresh));
        }
    }

    private static void whatStays() {
        ElectionTabulator x = Check.election(4, 2, "3:ab;");
        x.set(0, 3);
        x.set(1, 1);
        x.set(2, 1);
        x.save();
        x.declare();
        Check.type(x, "1:ax");
        Check.illegalArgument("execute", x::execute);
        Check.type(x, "2:c;");
        x.begin(3, 1);
        Check.is("rule of quotas", x.count(10), 3);
        Check.is("rule of transfers", x.count(11), 1);
        Check.is("rule of ties", x.count(12), 1);
        Check.is("buffer", x.count(6), 4);
        Check.is("error position", x.errorPosition(), 3);
        Check.is("calls to undo", x.count(5), 0);
        Check.illegalState("undo", x::undo);
        Check.illegalState("recount", () -> x.recount(0));
        Check.is("execute of what was typed before", x.execute(), 1);
        Check.is("piles", x.count(1), 1);
        Check.is("restore", x.restore(), 1);
        Check.is("candidates of the snapshot", x.count(0), 4);
    }

    private static void wrongNumbers() {
        ElectionTabulator x = Check.election(4, 2, "3:ab;2:c;");
        x.declare();
        int[][] wrong = {{1, 1}, {9, 1}, {3, 0}, {3, 8}, {-1, 1}, {3, -1}, {0, 0}, {Integer.MAX_VALUE, 1},
            {Integer.MIN_VALUE, 1}, {2, Integer.MAX_VALUE}, {2, Integer.MIN_VALUE}};
        for (int[] w : wrong) {
            Check.refuses(x, "begin(" + w[0] + ", " + w[1] + ")", IllegalArgumentException.class,
                () -> x.begin(w[0], w[1]));
        }
    }
}
