import java.util.ArrayList;
import java.util.List;

/** Long runs of calls, the same on the program and on the oracle; every answer must be the same. */
public final class FuzzTest {
    private static final int RUNS = 6000;
    private static final int CHANGES = 60;
    private static final int CALLS = 512;

    private long seed;
    private ElectionTabulator x;
    private Oracle oracle;
    private int[] call;
    private final List<String> story = new ArrayList<>();

    public static void main(String[] args) {
        FuzzTest test = new FuzzTest();
        for (int run = 0; run < RUNS; run++) {
            test.run(run);
        }
        for (String rare : List.of("at most the worth", "elected by tie 4", "elected by tie 5", "excluded 3",
                "excluded 4", "excluded 5", "parcel of a round", "quota fell",
                "round without papers passed over", "still several", "transferred by tie 4", "transferred by tie 5")) {
            if (!Oracle.Outcome.met.containsKey(rare)) {
                Check.tell("no run met: " + rare);
            }
        }
        System.out.println(Oracle.Outcome.met);
        Check.end();
    }

    /** A fixed sequence of numbers, so that each test run is the same. */
    private int next(int bound) {
        seed = seed * 6364136223846793005L + 1442695040888963407L;
        return (int) Math.floorMod(seed >>> 33, (long) bound);
    }

    private void run(int run) {
        seed = run * 7919L + 17;
        for (int i = 0; i < 5; i++) {
            next(2);
        }
        x = new ElectionTabulator();
        oracle = new Oracle();
        story.clear();
        int made = 0;
        if (next(4) > 0) {
            made += compare(0, 2 + next(7), 1 + next(next(2) == 0 ? 7 : 3));
        }
        int style = next(4);
        while (made < CHANGES) {
            made += change(style);
        }
        while (made < CALLS) {
            made += next(12) == 0 ? change(style) : ask();
        }
    }

    private int change(int style) {
        int kind = next(20);
        if (kind < 11) {
            return text(style);
        }
        if (kind < 14) {
            return compare(3, next(20) == 0 ? any() : next(4), next(20) == 0 ? any() : next(5));
        }
        if (kind == 14) {
            return compare(4, next(8) == 0 ? any() : next(oracle.count(0)));
        }
        if (kind == 15) {
            return compare(18);
        }
        if (kind == 16) {
            return compare(21);
        }
        if (kind == 17) {
            return next(3) == 0 ? compare(22) : compare(23);
        }
        if (kind == 18) {
            return next(10) == 0 ? compare(0, next(11), next(9)) : compare(25, 5);
        }
        return next(8) == 0 ? compare(1, next(Integer.MAX_VALUE) * 2 + next(2)) : compare(1, 0);
    }

    private int any() {
        int[] edges = {-1, Integer.MIN_VALUE, Integer.MAX_VALUE, -10, 8, 9, 24, 25, 60};
        return next(3) == 0 ? edges[next(edges.length)] : next(24) - 2;
    }

    private String ranking(int candidates, boolean whole) {
        StringBuilder letters = new StringBuilder("abcdefgh".substring(0, candidates));
        StringBuilder ranking = new StringBuilder();
        int length = whole ? candidates : 1 + next(next(2) == 0 ? candidates : Math.min(3, candidates));
        for (int i = 0; i < length; i++) {
            int at = next(letters.length());
            ranking.append(letters.charAt(at));
            letters.deleteCharAt(at);
        }
        return ranking.toString();
    }

    private int size(int style) {
        if (style == 0) {
            return next(3);
        }
        return style == 1 ? next(100) : next(next(3) == 0 ? 30 : 6);
    }

    private String command(int style) {
        int candidates = oracle.count(0);
        int piles = oracle.count(1);
        int kind = next(12);
        if (kind == 0) {
            return "!" + ranking(candidates, next(9) > 0) + ";";
        }
        if (kind == 1 && piles > 0 || next(60) == 0) {
            return "#" + next(piles + 1) + "=" + size(style) + ";";
        }
        if (kind == 2 && piles > 0 || next(60) == 0) {
            return "~" + next(piles + 1) + ":" + ranking(candidates, false) + ";";
        }
        return size(style) + ":" + ranking(candidates, false) + ";";
    }

    /** Types some commands, sometimes with a sign changed, added or left out, and executes them. */
    private int text(int style) {
        StringBuilder text = new StringBuilder();
        int commands = 1 + next(4);
        for (int i = 0; i < commands; i++) {
            text.append(command(style));
        }
        if (next(6) == 0) {
            String signs = "0123456789abcdefghi:;#=~!x";
            int at = next(text.length());
            char sign = signs.charAt(next(signs.length()));
            int how = next(4);
            if (how == 0) {
                text.insert(at, sign);
            } else if (how == 1) {
                text.setCharAt(at, sign);
            } else if (how == 2) {
                text.deleteCharAt(at);
            } else {
                text.setLength(at);
            }
        }
        int made = 0;
        for (int i = 0; i < text.length(); i += 4) {
            made += compare(1, Check.pack(text.substring(i, Math.min(text.length(), i + 4))));
        }
        return made + compare(2) + compare(24);
    }

    private int ask() {
        int candidate = next(30) == 0 ? any() : next(8);
        int round = next(30) == 0 ? any() : next(oracle.rounds());
        int pile = next(30) == 0 ? any() : next(Math.max(1, oracle.count(1)));
        int what = next(20) == 0 ? any() : next(7);
        switch (next(18)) {
            case 0: return compare(5, pile, next(3) == 0 ? what : 10 + next(9));
            case 1: return compare(6, pile, next(14) - 2);
            case 2: return compare(7);
            case 3: return compare(8, round, candidate);
            case 4: return compare(9, round, what);
            case 5: return compare(9, round, what);
            case 6: return compare(10, candidate, what);
            case 7: return compare(10, candidate, what);
            case 8: return compare(11, next(9) - 1);
            case 9: return compare(12, round, pile, next(20) == 0 ? any() : next(2));
            case 10: return compare(12, round, pile, next(20) == 0 ? any() : next(2));
            case 11: return compare(13, round, candidate);
            case 12: return compare(14, candidate, next(oracle.count(0)));
            case 13: return compare(15);
            case 14: return compare(16, candidate);
            case 15: return compare(19, next(20) == 0 ? any() : next(3));
            case 16: return next(4) == 0 ? compare(20, candidate) : compare(19, 2);
            default: return compare(25, next(3) == 0 ? what : next(30));
        }
    }

    private int compare(int... numbers) {
        call = numbers;
        String here = answer(true);
        String there = answer(false);
        StringBuilder told = new StringBuilder("call");
        for (int number : numbers) {
            told.append(' ').append(number);
        }
        story.add(told + " -> " + there);
        Check.isText(here.equals(there) ? told.toString() : told + " after " + story, here, there);
        return 1;
    }

    private String answer(boolean program) {
        try {
            return program ? ofProgram() : ofOracle();
        } catch (RuntimeException e) {
            return e.getClass().getName();
        }
    }

    private String ofProgram() {
        switch (call[0]) {
            case 0: return "" + x.begin(call[1], call[2]);
            case 1: return "" + x.append(call[1]);
            case 2: return "" + x.execute();
            case 3: return "" + x.set(call[1], call[2]);
            case 4: return "" + x.withdraw(call[1]);
            case 5: return "" + x.pile(call[1], call[2]);
            case 6: return "" + x.character(call[1], call[2]);
            case 7: return "" + x.rounds();
            case 8: return "" + x.votes(call[1], call[2]);
            case 9: return "" + x.round(call[1], call[2]);
            case 10: return "" + x.candidate(call[1], call[2]);
            case 11: return "" + x.elected(call[1]);
            case 12: return "" + x.where(call[1], call[2], call[3]);
            case 13: return "" + x.share(call[1], call[2]);
            case 14: return "" + x.preferring(call[1], call[2]);
            case 15: return "" + x.beatsAll();
            case 16: return "" + x.points(call[1]);
            case 18: return "" + x.declare();
            case 19: return "" + x.recount(call[1]);
            case 20: return "" + x.needed(call[1]);
            case 21: return "" + x.undo();
            case 22: return "" + x.save();
            case 23: return "" + x.restore();
            case 24: return "" + x.errorPosition();
            default: return "" + x.count(call[1]);
        }
    }

    private String ofOracle() {
        switch (call[0]) {
            case 0: return "" + oracle.begin(call[1], call[2]);
            case 1: return "" + oracle.append(call[1]);
            case 2: return "" + oracle.execute();
            case 3: return "" + oracle.set(call[1], call[2]);
            case 4: return "" + oracle.withdraw(call[1]);
            case 5: return "" + oracle.pile(call[1], call[2]);
            case 6: return "" + oracle.character(call[1], call[2]);
            case 7: return "" + oracle.rounds();
            case 8: return "" + oracle.votes(call[1], call[2]);
            case 9: return "" + oracle.round(call[1], call[2]);
            case 10: return "" + oracle.candidate(call[1], call[2]);
            case 11: return "" + oracle.elected(call[1]);
            case 12: return "" + oracle.where(call[1], call[2], call[3]);
            case 13: return "" + oracle.share(call[1], call[2]);
            case 14: return "" + oracle.preferring(call[1], call[2]);
            case 15: return "" + oracle.beatsAll();
            case 16: return "" + oracle.points(call[1]);
            case 18: return "" + oracle.declare();
            case 19: return "" + oracle.recount(call[1]);
            case 20: return "" + oracle.needed(call[1]);
            case 21: return "" + oracle.undo();
            case 22: return "" + oracle.save();
            case 23: return "" + oracle.restore();
            case 24: return "" + oracle.errorPosition();
            default: return "" + oracle.count(call[1]);
        }
    }
}
