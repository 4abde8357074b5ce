/** Promises 24 and 25: save, restore. */
public final class SnapshotTest {
    public static void main(String[] args) {
        wholeElection();
        declaredResults();
        whatIsNotSaved();
        Check.end();
    }

    private static void wholeElection() {
        ElectionTabulator x = Check.election(4, 2, "9:abc;3:ba;!dcba;");
        Check.refuses(x, "restore of nothing", IllegalStateException.class, x::restore);
        x.set(0, 3);
        x.set(1, 1);
        x.set(2, 1);
        x.withdraw(1);
        Check.is("save", x.save(), 2);
        String saved = Check.dump(x);
        x.begin(7, 5);
        Check.read(x, "1:g;2:f;3:e;");
        x.set(0, 1);
        x.set(1, 0);
        x.set(2, 0);
        Check.is("restore", x.restore(), 2);
        Check.is("nothing to undo", x.count(5), 0);
        Check.illegalState("undo", x::undo);
        Check.isText("all is as it was", Check.dump(x).replaceFirst("1 0 0 3", "1 5 0 3"), saved);
        x.withdraw(0);
        Check.is("restore once more", x.restore(), 2);
        Check.isText("all is as it was", Check.dump(x).replaceFirst("1 0 0 3", "1 5 0 3"), saved);
        Check.read(x, "5:d;");
        Check.is("save in its place", x.save(), 3);
        x.begin(2, 1);
        Check.is("restore", x.restore(), 3);
        Check.is("papers", x.count(2), 17);
    }

    private static void declaredResults() {
        ElectionTabulator x = Check.election(3, 1, "3:a;2:b;");
        x.save();
        x.declare();
        x.restore();
        Check.illegalState("nothing was declared at save", () -> x.recount(0));
        x.declare();
        x.save();
        Check.read(x, "5:b;");
        x.declare();
        Check.is("present against the later one", x.recount(0), 0);
        x.restore();
        Check.is("present against the saved one", x.recount(2), -1);
        Check.read(x, "5:b;");
        Check.is("later against the saved one", x.recount(1), 0);
        x.begin(5, 3);
        Check.illegalState("recount after begin", () -> x.recount(0));
        x.restore();
        Check.is("declared again", x.recount(0), 0);
        x.begin(3, 1);
        x.save();
        x.restore();
        Check.illegalState("saved without a declared result", () -> x.recount(0));
    }

    private static void whatIsNotSaved() {
        ElectionTabulator x = Check.election(3, 1, "3:a;2:b;");
        Check.type(x, "1:x;");
        x.save();
        Check.is("calls to undo after save", x.count(5), 1);
        Check.illegalArgument("execute", x::execute);
        Check.type(x, "1:");
        x.restore();
        Check.is("buffer", x.count(6), 2);
        Check.is("error position", x.errorPosition(), 2);
    }
}
