/** The bounds of promises 23 to 26: undo, save, restore, count. */
public final class BoundsUndoTest {
    private static final int LEAST = Integer.MIN_VALUE;
    private static final int GREATEST = Integer.MAX_VALUE;

    public static void main(String[] args) {
        latestCallThatWasNotUndone();
        refusedCallsDoNotCount();
        callsByWhichNothingBecameDifferent();
        atMostEight();
        whatWasDeclaredStays();
        callsThatCanStillBeUndone();
        nothingToUndo();
        wholeSnapshot();
        pilesOfTheSnapshot();
        snapshotIsKept();
        nothingCanBeUndoneThen();
        pilesThatAreRestored();
        noSnapshot();
        plainCounts();
        settingsAsCounts();
        lotAsCounts();
        noSuchCount();
        Check.end();
    }

    /** Promise 23: "Undoes the latest successful call of execute, set or withdraw that was not undone" */
    private static void latestCallThatWasNotUndone() {
        ElectionTabulator x = Check.election(3, 1);
        String[] states = new String[8];
        for (int call = 0; call < 8; call++) {
            states[call] = Check.dump(x);
            change(x, call);
        }
        for (int call = 7; call >= 0; call--) {
            Check.is("undo", x.undo(), call);
            Check.isText("the state before call " + call, Check.dump(x), states[call]);
        }
        change(x, 0);
        change(x, 4);
        x.undo();
        change(x, 1);
        String state = Check.dump(x);
        change(x, 2);
        x.undo();
        Check.isText("before the call behind an undo", Check.dump(x), state);
        x.undo();
        x.undo();
        Check.isText("before the first call", Check.dump(x), states[0]);
    }

    private static void change(ElectionTabulator x, int call) {
        switch (call) {
            case 0:
                Check.read(x, "3:ab;2:bc;");
                break;
            case 1:
                x.withdraw(2);
                break;
            case 2:
                x.set(0, 3);
                break;
            case 3:
                Check.read(x, "#0=1;~1:c;!cba;5:a;");
                break;
            case 4:
                x.set(1, 1);
                break;
            case 5:
                x.set(2, 1);
                break;
            case 6:
                x.withdraw(2);
                break;
            default:
                x.set(3, 7);
        }
    }

    /** Promise 23: "the latest successful call": a call that was refused, or is of another method, is none. */
    private static void refusedCallsDoNotCount() {
        ElectionTabulator x = Check.election(3, 1, "3:ab;");
        Check.illegalArgument("set", () -> x.set(3, 8));
        Check.outOfBounds("withdraw", () -> x.withdraw(3) ? 1 : 0);
        Check.errorAt(x, "5:c;x", 4);
        x.declare();
        x.save();
        x.needed(2);
        x.append('1');
        Check.is("calls to undo", x.count(5), 1);
        Check.is("undo", x.undo(), 0);
        Check.is("the text is undone", x.count(1), 0);
        Check.is("the buffer is another thing", x.count(6), 1);
        Check.illegalState("undo of an undo", x::undo);
    }

    /** Promise 23: "also if nothing became different by it." */
    private static void callsByWhichNothingBecameDifferent() {
        ElectionTabulator x = Check.election(3, 1, "3:ab;");
        String state = Check.dump(x);
        x.set(0, 0);
        x.set(3, 1);
        Check.read(x, "#0=3;~0:ab;!abc;");
        x.withdraw(1);
        x.withdraw(1);
        Check.is("calls to undo", x.count(5), 6);
        for (int left = 5; left >= 1; left--) {
            Check.is("undo", x.undo(), left);
        }
        Check.isText("the state", Check.dump(x), state);
        Check.is("undo", x.undo(), 0);
        Check.is("piles", x.count(1), 0);
    }

    /** Promise 23: "At most 8 can be undone." */
    private static void atMostEight() {
        for (int calls = 1; calls <= 20; calls++) {
            ElectionTabulator x = new ElectionTabulator();
            for (int call = 1; call <= calls; call++) {
                Check.read(x, call + ":a;");
            }
            int undone = Math.min(8, calls);
            Check.is("calls to undo", x.count(5), undone);
            for (int left = undone - 1; left >= 0; left--) {
                Check.is("undo", x.undo(), left);
                Check.is("piles", x.count(1), calls - undone + left);
            }
            Check.illegalState("one undo more", x::undo);
            Check.is("piles after it", x.count(1), calls - undone);
            Check.is("papers after it", x.count(2), (calls - undone) * (calls - undone + 1) / 2);
            x.set(3, 2);
            Check.is("a call after it can be undone", x.undo(), 0);
        }
    }

    /** Promise 23: "What was declared stays." */
    private static void whatWasDeclaredStays() {
        ElectionTabulator x = Check.election(3, 1, "3:a;");
        Check.read(x, "4:b;");
        x.declare();
        x.undo();
        Check.is("the present result against what was declared", x.recount(1), 0);
        x.undo();
        Check.is("without any pile", x.recount(2), 0);
        Check.read(x, "3:a;4:b;");
        Check.is("as it was declared", x.recount(2), -1);
        ElectionTabulator y = Check.election(3, 1, "3:a;");
        y.undo();
        Check.illegalState("nothing was declared", () -> y.recount(0));
    }

    /** Promise 23: "Returns the number of calls that can still be undone." */
    private static void callsThatCanStillBeUndone() {
        ElectionTabulator x = new ElectionTabulator();
        x.set(0, 1);
        Check.is("undo of the only one", x.undo(), 0);
        for (int call = 0; call < 8; call++) {
            x.withdraw(0);
        }
        Check.is("undo of the eighth", x.undo(), 7);
        x.withdraw(0);
        x.withdraw(1);
        Check.is("undo of the ninth", x.undo(), 7);
        Check.is("undo of the eighth", x.undo(), 6);
        Check.is("count(5)", x.count(5), 6);
    }

    /** Promise 23: "Throws `IllegalStateException` if there is none" */
    private static void nothingToUndo() {
        Twins.refuse("undo of a new object", IllegalStateException.class, ElectionTabulator::new,
            ElectionTabulator::undo);
        Twins.refuse("undo after begin", IllegalStateException.class, () -> {
            ElectionTabulator x = Twins.rich();
            x.begin(3, 1);
            return x;
        }, ElectionTabulator::undo);
        Twins.refuse("undo after restore", IllegalStateException.class, () -> {
            ElectionTabulator x = Twins.rich();
            x.restore();
            return x;
        }, ElectionTabulator::undo);
        Twins.refuse("undo after as many undos as calls", IllegalStateException.class, () -> {
            ElectionTabulator x = Twins.rich();
            for (int left = 5; left >= 0; left--) {
                Check.is("undo", x.undo(), left);
            }
            return x;
        }, ElectionTabulator::undo);
    }

    /**
     * Promise 24: "Saves the election, with its ballots and rules, and what is declared, in place of an earlier
     * snapshot."
     */
    private static void wholeSnapshot() {
        ElectionTabulator x = Check.election(2, 1, "1:b;");
        x.save();
        x.begin(8, 7);
        Check.read(x, "99:hgfedcba;0:a;5:bh;!hgfedcba;");
        x.set(0, 3);
        x.set(1, 1);
        x.set(2, 1);
        x.withdraw(0);
        x.declare();
        x.withdraw(7);
        x.save();
        String saved = Check.dump(x);
        x.begin(2, 1);
        Check.read(x, "1:a;2:b;!ba;");
        x.set(0, 0);
        x.set(1, 0);
        x.set(2, 0);
        x.declare();
        x.restore();
        Check.is("calls to undo", x.count(5), 0);
        Check.isText("all is as it was saved", Check.dump(x).replaceFirst("2 0 0 3", "2 6 0 3"), saved);
        Check.is("what was declared was saved", x.recount(0), 1);
        x.begin(2, 1);
        x.save();
        x.declare();
        x.restore();
        Check.illegalState("nothing was declared when it was saved", () -> x.recount(0));
        Check.is("piles", x.count(1), 0);
    }

    /** Promise 24: "Returns the number of piles." */
    private static void pilesOfTheSnapshot() {
        ElectionTabulator x = new ElectionTabulator();
        for (int piles = 0; piles <= 24; piles++) {
            Check.is("save", x.save(), piles);
            Check.is("restore", x.restore(), piles);
            if (piles < 24) {
                Check.read(x, "0:c;");
            }
        }
        x.begin(3, 1);
        Check.is("restore of 24 piles", x.restore(), 24);
        Check.isText("the last pile", Check.textOf(x, 23), "0:c;");
    }

    /** Promise 25: "Restores the snapshot, which is kept." */
    private static void snapshotIsKept() {
        ElectionTabulator x = Check.election(4, 2, "9:abc;3:ba;");
        x.save();
        String state = null;
        for (int time = 0; time < 4; time++) {
            Check.is("restore", x.restore(), 2);
            String now = Check.dump(x);
            Check.isText("the same each time", now, state == null ? now : state);
            state = now;
            Check.read(x, "#0=1;~1:d;!dcba;5:c;");
            x.withdraw(0);
            x.set(0, 1);
            x.set(3, 7);
            if (time == 2) {
                x.begin(8, 1);
                x.declare();
            }
        }
    }

    /** Promise 25: "Nothing can be undone then." */
    private static void nothingCanBeUndoneThen() {
        ElectionTabulator x = Check.election(3, 1, "1:a;");
        x.set(3, 2);
        x.save();
        Check.is("calls to undo after save", x.count(5), 2);
        x.restore();
        Check.is("calls to undo after restore", x.count(5), 0);
        Check.illegalState("undo", x::undo);
        x.set(3, 3);
        Check.is("a call after it can be undone", x.undo(), 0);
        Check.is("seats", x.count(13), 2);
    }

    /** Promise 25: "Returns the number of piles." */
    private static void pilesThatAreRestored() {
        ElectionTabulator x = new ElectionTabulator();
        x.save();
        Check.read(x, "1:a;1:a;");
        Check.is("restore of none", x.restore(), 0);
        Check.is("piles", x.count(1), 0);
        Check.read(x, "1:a;1:a;1:a;");
        x.save();
        x.begin(2, 1);
        Check.is("restore of three", x.restore(), 3);
        Check.is("piles", x.count(1), 3);
    }

    /** Promise 25: "Throws `IllegalStateException` if there is no snapshot" */
    private static void noSnapshot() {
        Twins.refuse("restore of a new object", IllegalStateException.class, ElectionTabulator::new,
            ElectionTabulator::restore);
        Twins.refuse("restore without a save", IllegalStateException.class, () -> {
            ElectionTabulator x = Check.election(4, 2, "9:abc;3:ba;");
            x.declare();
            x.withdraw(1);
            Check.type(x, "1:a");
            return x;
        }, ElectionTabulator::restore);
        ElectionTabulator x = new ElectionTabulator();
        x.save();
        Check.is("a snapshot of a new object", x.restore(), 0);
    }

    /**
     * Promise 26: "- `what`: 0 for the candidates, 1 for the piles, 2 for the papers, 3 for the elected candidates, 4
     * for the withdrawn candidates, 5 for the calls that can be undone, 6 for the characters in the buffer"
     */
    private static void plainCounts() {
        counts(new ElectionTabulator(), 3, 0, 0, 1, 0, 0, 0);
        ElectionTabulator full = Check.election(8, 7);
        for (int p = 0; p < 24; p++) {
            Check.read(full, "99:ab;");
        }
        Check.type(full, "1:a;1:a;1:a;1:a;1:a;1:a;1:a;1:a;1:a;1:a;1:a;1:a;1:a;1:a;1:a;");
        counts(full, 8, 24, 2376, 7, 0, 8, 60);
        for (int c = 0; c < 8; c++) {
            full.withdraw(c);
        }
        counts(full, 8, 24, 2376, 0, 8, 8, 60);
        ElectionTabulator least = Check.election(2, 1, "0:a;");
        counts(least, 2, 1, 0, 1, 0, 1, 0);
        least.append('x');
        least.undo();
        counts(least, 2, 0, 0, 1, 0, 0, 1);
    }

    private static void counts(ElectionTabulator x, int... due) {
        for (int what = 0; what < 7; what++) {
            Check.is("count(" + what + ")", x.count(what), due[what]);
        }
    }

    /** Promise 26: "10 + w for the value of set with the what w" */
    private static void settingsAsCounts() {
        ElectionTabulator x = new ElectionTabulator();
        int[] first = {0, 0, 0, 1};
        int[] last = {3, 1, 1, 7};
        for (int w = 0; w < 4; w++) {
            Check.is("count(" + (10 + w) + ") at first", x.count(10 + w), first[w]);
            x.set(w, last[w]);
            Check.is("count(" + (10 + w) + ") at last", x.count(10 + w), last[w]);
        }
        for (int w = 0; w < 4; w++) {
            Check.is("the others stay", x.count(10 + w), last[w]);
        }
        x.begin(2, 5);
        Check.is("the seats of begin", x.count(13), 5);
    }

    /** Promise 26: "20 + p for the candidate at place p of the lot, from 0" */
    private static void lotAsCounts() {
        for (int candidates = 2; candidates <= 8; candidates++) {
            ElectionTabulator x = Check.election(candidates, 1);
            Check.is("the first place", x.count(20), 0);
            Check.is("the last place", x.count(19 + candidates), candidates - 1);
            Check.read(x, "!" + "bcdefgh".substring(0, candidates - 1) + "a;");
            Check.is("the first place of another lot", x.count(20), 1);
            Check.is("the last place of another lot", x.count(19 + candidates), 0);
            int one = candidates;
            Check.illegalArgument("a place behind the last one", () -> x.count(20 + one));
            Check.illegalArgument("a place before the first one", () -> x.count(19));
        }
    }

    /** Promise 26: "Throws `IllegalArgumentException` if there is no such what or place" */
    private static void noSuchCount() {
        for (int wrong : new int[] {-1, 7, 8, 9, 14, 15, 19, 24, 25, 28, 29, LEAST, GREATEST}) {
            Twins.refuse("count(" + wrong + ")", IllegalArgumentException.class, Twins::rich, x -> x.count(wrong));
        }
        ElectionTabulator eight = Check.election(8, 1);
        Check.is("the last place of eight", eight.count(27), 7);
        Check.illegalArgument("count(28)", () -> eight.count(28));
    }
}
