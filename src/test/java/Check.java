/** What all tests use: calls with the answer or the exception that is due, and the end of a test. */
final class Check {
    interface Call {
        long run();
    }

    private static int calls = 0;
    private static int wrong = 0;

    private Check() {
    }

    static void is(String what, long got, long want) {
        calls++;
        if (got != want) {
            tell(what + " answered " + got + ", due is " + want);
        }
    }

    static void isFloat(String what, float got, float want) {
        calls++;
        if (got != want) {
            tell(what + " answered " + got + ", due is " + want);
        }
    }

    /** The class must be the very one: what the machine throws is a class below it. */
    static void fails(String what, Class<? extends RuntimeException> due, Call call) {
        calls++;
        try {
            tell(what + " answered " + call.run() + ", due is " + due.getName());
        } catch (RuntimeException thrown) {
            if (thrown.getClass() != due) {
                tell(what + " threw " + thrown + ", due is " + due.getName());
            }
        }
    }

    static void outOfBounds(String what, Call call) {
        fails(what, IndexOutOfBoundsException.class, call);
    }

    static void illegalArgument(String what, Call call) {
        fails(what, IllegalArgumentException.class, call);
    }

    static void illegalState(String what, Call call) {
        fails(what, IllegalStateException.class, call);
    }

    static void tell(String text) {
        wrong++;
        if (wrong <= 40) {
            System.out.println(text);
        }
    }

    static void end() {
        System.out.println(calls + " checks, " + wrong + " wrong");
        if (wrong != 0) {
            System.exit(1);
        }
    }

    static int pack(String four) {
        int packed = 0;
        for (int i = 0; i < four.length(); i++) {
            packed = packed << 8 | four.charAt(i);
        }
        return packed;
    }

    static void type(ElectionTabulator x, String text) {
        for (int i = 0; i < text.length(); i += 4) {
            x.append(pack(text.substring(i, Math.min(text.length(), i + 4))));
        }
    }

    static int read(ElectionTabulator x, String text) {
        type(x, text);
        return x.execute();
    }

    /** A new election with the piles of some texts. */
    static ElectionTabulator election(int candidates, int seats, String... texts) {
        ElectionTabulator x = new ElectionTabulator();
        x.begin(candidates, seats);
        for (String text : texts) {
            read(x, text);
        }
        return x;
    }

    /** The text of a pile, as the method character tells it. */
    static String textOf(ElectionTabulator x, int pile) {
        StringBuilder text = new StringBuilder();
        int length = x.character(pile, -1);
        for (int i = 0; i < length; i++) {
            text.append((char) x.character(pile, i));
        }
        return text.toString();
    }

    /** All that an object tells without a change. */
    static String dump(ElectionTabulator x) {
        StringBuilder all = new StringBuilder();
        for (int what : new int[] {0, 1, 2, 3, 4, 5, 6, 10, 11, 12, 13}) {
            all.append(x.count(what)).append(' ');
        }
        all.append(x.errorPosition()).append(" lot");
        for (int place = 0; place < x.count(0); place++) {
            all.append(' ').append(x.count(20 + place));
        }
        for (int p = 0; p < x.count(1); p++) {
            all.append(' ').append(textOf(x, p));
        }
        for (int c = 0; c < x.count(0); c++) {
            all.append(" candidate");
            for (int what = 0; what < 6; what++) {
                all.append(' ').append(x.candidate(c, what));
            }
        }
        for (int r = 0; r < x.rounds(); r++) {
            all.append(" round");
            for (int what = 0; what < 7; what++) {
                all.append(' ').append(x.round(r, what));
            }
            for (int p = 0; p < x.count(1); p++) {
                all.append(' ').append(x.where(r, p, 0)).append('*').append(x.where(r, p, 1));
            }
        }
        for (int what = 0; what < 3; what++) {
            all.append(' ').append(recountOf(x, what));
        }
        return all.toString();
    }

    private static String recountOf(ElectionTabulator x, int what) {
        try {
            return String.valueOf(x.recount(what));
        } catch (IllegalStateException nothingDeclared) {
            return "undeclared";
        }
    }

    /** A round: quota, exhausted, lost, event, subject, moved, elected; then the votes. */
    static void round(ElectionTabulator x, int round, int[] numbers, int... votes) {
        for (int what = 0; what < 7; what++) {
            is("round(" + round + ", " + what + ")", x.round(round, what), numbers[what]);
        }
        for (int c = 0; c < votes.length; c++) {
            is("votes(" + round + ", " + c + ")", x.votes(round, c), votes[c]);
        }
    }

    /** Where the piles are in a round: holder and worth of each. */
    static void where(ElectionTabulator x, int round, int... places) {
        for (int p = 0; 2 * p < places.length; p++) {
            is("where(" + round + ", " + p + ", 0)", x.where(round, p, 0), places[2 * p]);
            is("where(" + round + ", " + p + ", 1)", x.where(round, p, 1), places[2 * p + 1]);
        }
    }

    /** Of a candidate: status, round, place, reason, round of the tie, votes at last. */
    static void fate(ElectionTabulator x, int candidate, int... numbers) {
        for (int what = 0; what < 6; what++) {
            is("candidate(" + candidate + ", " + what + ")", x.candidate(candidate, what), numbers[what]);
        }
    }

    /** All that are elected, in their order. */
    static void order(ElectionTabulator x, int... candidates) {
        for (int place = 0; place < candidates.length; place++) {
            is("elected(" + place + ")", x.elected(place), candidates[place]);
        }
        is("number of elected", x.count(3), candidates.length);
    }

    static int[] row(int... numbers) {
        return numbers;
    }

    /** As fails, and the state is the same afterwards. */
    static void refuses(ElectionTabulator x, String what, Class<? extends RuntimeException> due, Call call) {
        String before = dump(x);
        fails(what, due, call);
        isText("the state after " + what, dump(x), before);
    }

    /** The text is refused at a position; but for the error position nothing is different, and the buffer is empty. */
    static void errorAt(ElectionTabulator x, String text, int position) {
        is("buffer before " + text, x.count(6), 0);
        String before = dumpWithoutError(x);
        type(x, text);
        illegalArgument("execute of " + text, x::execute);
        is("error position in " + text, x.errorPosition(), position);
        is("buffer after " + text, x.count(6), 0);
        isText("state after " + text, dumpWithoutError(x), before);
    }

    private static String dumpWithoutError(ElectionTabulator x) {
        return dump(x).replaceFirst(" " + x.errorPosition() + " lot", " lot");
    }

    static void isText(String what, String got, String want) {
        calls++;
        if (!got.equals(want)) {
            tell(what + " is " + got + ", due is " + want);
        }
    }
}
