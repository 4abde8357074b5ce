/** Promise 23: undo. */
public final class UndoTest {
    public static void main(String[] args) {
        everyKind();
        atMostEight();
        whatIsNoCall();
        whatStays();
        Check.end();
    }

    private static void everyKind() {
        ElectionTabulator x = Check.election(4, 2, "9:abc;3:ba;");
        String first = Check.dump(x);
        x.set(3, 3);
        String second = Check.dump(x);
        x.withdraw(0);
        String third = Check.dump(x);
        Check.read(x, "#0=1;~1:d;!dcba;5:c;");
        String fourth = Check.dump(x);
        x.set(0, 3);
        Check.is("undo of set", x.undo(), 4);
        Check.isText("before set", Check.dump(x), fourth);
        Check.is("undo of execute", x.undo(), 3);
        Check.isText("before execute", Check.dump(x), third);
        Check.is("undo of withdraw", x.undo(), 2);
        Check.isText("before withdraw", Check.dump(x), second);
        Check.is("undo of set", x.undo(), 1);
        Check.isText("before set", Check.dump(x), first);
        Check.is("undo of the first execute", x.undo(), 0);
        Check.is("piles", x.count(1), 0);
        Check.refuses(x, "undo of nothing", IllegalStateException.class, x::undo);
        x.set(1, 1);
        x.set(2, 1);
        x.undo();
        x.set(0, 2);
        Check.is("undo behind an undo", x.undo(), 1);
        Check.is("undo of the call before", x.undo(), 0);
        Check.is("rule of transfers", x.count(11), 0);
    }

    private static void atMostEight() {
        ElectionTabulator x = new ElectionTabulator();
        for (int i = 0; i < 21; i++) {
            x.set(3, 1 + i % 5);
            Check.is("calls to undo", x.count(5), Math.min(8, i + 1));
        }
        for (int i = 0; i < 8; i++) {
            Check.is("seats", x.count(13), 1 + (20 - i) % 5);
            Check.is("undo", x.undo(), 7 - i);
        }
        Check.is("seats", x.count(13), 3);
        Check.illegalState("the ninth undo", x::undo);
        Check.is("seats", x.count(13), 3);
    }

    private static void whatIsNoCall() {
        ElectionTabulator x = Check.election(3, 1, "9:abc;");
        Check.illegalArgument("set", () -> x.set(0, 9));
        Check.outOfBounds("withdraw", () -> x.withdraw(3) ? 1 : 0);
        Check.illegalArgument("execute", x::execute);
        x.declare();
        x.save();
        x.append('1');
        x.needed(1);
        Check.is("calls to undo", x.count(5), 1);
        // A call by which nothing became different counts all the same.
        x.set(0, 0);
        Check.is("calls to undo", x.count(5), 2);
        x.withdraw(0);
        x.withdraw(0);
        Check.is("calls to undo", x.count(5), 4);
    }

    private static void whatStays() {
        ElectionTabulator x = Check.election(3, 1, "9:abc;8:b;");
        x.set(3, 2);
        x.declare();
        Check.type(x, "1:");
        Check.is("undo", x.undo(), 1);
        Check.is("what was declared", x.recount(1), 1);
        Check.is("the buffer", x.count(6), 2);
        Check.is("undo", x.undo(), 0);
        Check.is("the buffer", x.count(6), 2);
        Check.is("what was declared", x.recount(1), 1);
        x.begin(3, 1);
        x.set(0, 1);
        x.begin(3, 1);
        Check.illegalState("undo behind begin", x::undo);
        Check.is("the rule stays", x.count(10), 1);
    }
}
