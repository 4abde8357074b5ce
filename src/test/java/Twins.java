import java.util.List;
import java.util.function.Function;
import java.util.function.Supplier;
import java.util.function.ToLongFunction;

/**
 * Two objects with the same calls behind them: after a refused call on one of them both must answer alike, whatever
 * is asked and done then. So what no method tells, as the text in the buffer or the snapshot, is looked at too.
 */
final class Twins {
    private static final List<Function<ElectionTabulator, String>> PROBES = List.of(Check::dump,
        Twins::afterItsText, Twins::afterAllUndos, Twins::afterRestore, Twins::afterBegin);

    private Twins() {
    }

    /** Something of all: piles, a lot, rules, a snapshot, a declared result, calls to undo, an error, a text. */
    static ElectionTabulator rich() {
        ElectionTabulator x = Check.election(4, 2, "9:abc;3:ba;!dcba;");
        x.save();
        Check.read(x, "4:cd;2:d;1:bd;");
        x.declare();
        x.set(0, 3);
        x.set(1, 1);
        x.set(2, 1);
        x.withdraw(3);
        Check.errorAt(x, "1:ax", 3);
        Check.type(x, "2:b");
        return x;
    }

    static void refuse(String what, Class<? extends RuntimeException> due, Supplier<ElectionTabulator> maker,
            ToLongFunction<ElectionTabulator> call) {
        for (Function<ElectionTabulator, String> probe : PROBES) {
            ElectionTabulator refused = maker.get();
            Check.fails(what, due, () -> call.applyAsLong(refused));
            Check.isText("what " + what + " left", probe.apply(refused), probe.apply(maker.get()));
        }
    }

    private static String afterItsText(ElectionTabulator x) {
        try {
            x.append(';');
            x.execute();
        } catch (IllegalArgumentException | IllegalStateException wrongOrTooLong) {
            return "refused, " + Check.dump(x);
        }
        return Check.dump(x);
    }

    private static String afterAllUndos(ElectionTabulator x) {
        StringBuilder all = new StringBuilder();
        while (x.count(5) > 0) {
            all.append(x.undo()).append(' ').append(outline(x)).append('\n');
        }
        return all.toString();
    }

    /** What execute, set and withdraw can change. */
    private static String outline(ElectionTabulator x) {
        StringBuilder all = new StringBuilder();
        for (int what : new int[] {4, 10, 11, 12, 13}) {
            all.append(x.count(what)).append(' ');
        }
        for (int place = 0; place < x.count(0); place++) {
            all.append(x.count(20 + place)).append(' ');
        }
        for (int p = 0; p < x.count(1); p++) {
            all.append(Check.textOf(x, p)).append(' ');
        }
        return all.append(x.rounds()).toString();
    }

    private static String afterRestore(ElectionTabulator x) {
        try {
            return x.restore() + " " + Check.dump(x);
        } catch (IllegalStateException nothingSaved) {
            return "nothing saved";
        }
    }

    private static String afterBegin(ElectionTabulator x) {
        return x.begin(3, 2) + " " + Check.dump(x);
    }
}
