/** Promises 20 and 21: declare, recount. */
public final class RecountTest {
    public static void main(String[] args) {
        declaring();
        statuses();
        places();
        rounds();
        behindLongerCounts();
        notDeclared();
        Check.end();
    }

    private static void recounts(ElectionTabulator x, int statuses, int place, int round) {
        Check.is("recount(0)", x.recount(0), statuses);
        Check.is("recount(1)", x.recount(1), place);
        Check.is("recount(2)", x.recount(2), round);
    }

    private static void declaring() {
        ElectionTabulator x = Check.election(4, 2, "9:abc;3:ba;4:cd;2:d;1:bd;");
        Check.is("declare", x.declare(), 2);
        recounts(x, 0, -1, -1);
        x.set(0, 1);
        recounts(x, 0, -1, 1);
        Check.is("declare in its place", x.declare(), 2);
        recounts(x, 0, -1, -1);
        x.set(0, 0);
        recounts(x, 0, -1, 1);
        for (int c = 0; c < 4; c++) {
            x.withdraw(c);
        }
        Check.is("declare nobody", x.declare(), 0);
        recounts(x, 0, -1, -1);
        x.withdraw(3);
        recounts(x, 1, 0, 0);
    }

    private static void statuses() {
        ElectionTabulator x = Check.election(3, 1, "3:a;2:b;1:c;");
        x.declare();
        Check.read(x, "#1=4;");
        // a was elected after the exclusion of c, b was hopeful.
        Check.is("a and b", x.recount(0), 2);
        x.withdraw(2);
        Check.is("excluded and withdrawn are different", x.recount(0), 3);
    }

    private static void places() {
        ElectionTabulator x = Check.election(4, 3, "4:a;3:b;2:c;1:d;");
        x.declare();
        x.set(3, 2);
        Check.is("fewer were elected", x.recount(1), 2);
        x.set(3, 4);
        Check.is("more were elected", x.recount(1), 3);
        x.set(3, 3);
        Check.read(x, "#2=3;!acbd;");
        Check.is("another one in place 1", x.recount(1), 1);
        // c has the quota now, so that d is never excluded.
        Check.is("hopeful and excluded are different", x.recount(0), 1);
        Check.read(x, "#2=9;");
        Check.is("another one in place 0", x.recount(1), 0);
    }

    private static void rounds() {
        ElectionTabulator x = Check.election(3, 1, "5:a;4:b;3:c;");
        Check.is("rounds", x.rounds(), 3);
        x.declare();
        x.set(3, 2);
        Check.is("rounds with two seats", x.rounds(), 2);
        Check.is("the first round that only one has", x.recount(2), 2);
        x.declare();
        x.set(3, 1);
        Check.is("the same the other way", x.recount(2), 2);
        x.declare();
        Check.read(x, "~2:cb;");
        Check.is("other votes in round 1", x.recount(2), 1);
        Check.read(x, "#0=6;");
        Check.is("other votes in round 0", x.recount(2), 0);
        ElectionTabulator y = Check.election(3, 1, "5:a;4:b;3:c;");
        y.declare();
        y.withdraw(2);
        Check.is("votes of a withdrawn one count", y.recount(2), 0);
        ElectionTabulator z = Check.election(3, 1, "5:a;4:b;0:c;");
        z.set(0, 1);
        z.declare();
        z.withdraw(2);
        Check.is("the same votes in round 0", z.recount(2), 1);
    }

    /** Rows that a longer count left behind must not be compared. */
    private static void behindLongerCounts() {
        ElectionTabulator x = Check.election(8, 6, "9:a;8:b;7:c;6:d;5:e;4:f;3:g;2:h;");
        Check.is("elected by the longer count", x.count(3), 6);
        x.set(3, 2);
        Check.is("elected by the shorter count", x.declare(), 2);
        int rounds = x.rounds();
        Check.read(x, "#6=9;~7:ha;");
        x.set(3, 7);
        Check.is("elected by another longer count", x.count(3), 7);
        x.set(3, 1);
        Check.is("more rounds", x.rounds() > rounds ? 1 : 0, 1);
        for (int i = 0; i < 3; i++) {
            x.undo();
        }
        Check.is("rounds", x.rounds(), rounds);
        recounts(x, 0, -1, -1);
    }

    private static void notDeclared() {
        ElectionTabulator x = Check.election(3, 1, "3:a;2:b;1:c;");
        for (int what : new int[] {0, 1, 2}) {
            Check.refuses(x, "recount of nothing", IllegalStateException.class, () -> x.recount(what));
        }
        for (int what : new int[] {-1, 3, Integer.MAX_VALUE, Integer.MIN_VALUE}) {
            Check.refuses(x, "recount(" + what + ") of nothing", IllegalArgumentException.class,
                () -> x.recount(what));
        }
        x.declare();
        for (int what : new int[] {-1, 3, Integer.MAX_VALUE, Integer.MIN_VALUE}) {
            Check.refuses(x, "recount(" + what + ")", IllegalArgumentException.class, () -> x.recount(what));
        }
        x.begin(3, 1);
        Check.illegalState("recount after begin", () -> x.recount(0));
    }
}
