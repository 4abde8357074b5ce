/** What all tests use: calls with the answer or the exception that is due, and the end of a test. */
final class Check {
    interface Call {
        long run();
    }

    private static int calls = 0;
    private static int wrong = 0;

    private Check() {
    }

    static void is(String what, long got, long want) {
        calls++;
        if (got != want) {
            tell(what + " answered " + got + ", due is " + want);
        }
    }

    static void isFloat(String what, float got, float want) {
        calls++;
        if (got != want) {
            tell(what + " answered " + got + ", due is " + want);
        }
    }

    /** The class must be the very one: what the machine throws is a class below it. */
    static void fails(String what, Class<? extends RuntimeException> due, Call call) {
        calls++;
        try {
            tell(what + " answered " + call.run() + ", due is " + due.getName());
        } catch (RuntimeException thrown) {
            if (thrown.getClass() != due) {
                tell(what + " threw " + thrown + ", due is " + due.getName());
            }
        }
    }

    static void outOfBounds(String what, Call call) {
        fails(what, IndexOutOfBoundsException.class, call);
    }

    static void illegalArgument(String what, Call call) {
        fails(what, IllegalArgumentException.class, call);
    }

    static void illegalState(String what, Call call) {
        fails(what, IllegalStateException.class, call);
    }

    static void tell(String text) {
        wrong++;
        if (wrong <= 40) {
            System.out.println(text);
        }
    }

    static void end() {
        System.out.println(calls + " checks, " + wrong + " wrong");
        if (wrong != 0) {
            System.exit(1);
        }
    }

    static int pack(String four) {
        int packed = 0;
        for (int i = 0; i < four.length(); i++) {
            packed = packed << 8 | four.charAt(i);
        }
        return packed;
    }

    static void type(ElectionTabulator x, String text) {
        for (int i = 0; i < text.length(); i += 4) {
            x.append(pack(text.substring(i, Math.min(text.length(), i + 4))));
        }
    }

    static int read(ElectionTabulator x, String text) {
        type(x, text);
        return x.execute();
    }

    /** A new election with the piles of some texts. */
    static ElectionTabulator election(int candidates, int seats, String... texts) {
        ElectionTabulator x = new ElectionTabulator();
        x.begin(candidates, seats);
        for (String text : texts) {
            read(x, text);
        }
        return x;
    }

    /** The text of a pile, as the method character tells it. */
    static String textOf(ElectionTabulator x, int pile) {
        StringBuilder text = new StringBuilder();
        int length = x.character(pile, -1);
        for (int i = 0; i < length; i++) {
            text.append((char) x.character(pile, i));
        }
        return text.toString();
    }

    /** All that an object tells without a change. */
    static String dump(ElectionTabulator x) {
        StringBuilder all = new StringBuilder();
        for (int what : new int[] {0, 1, 2, 3, 4, 5, 6, 10, 11, 12, 13}) {
            all.append(x.count(what)).append(' ');
        }
        all.append(x.errorPosition()).append(" lot");
        for (int place = 0; place < x.count(0); place++) {
            all.append(' ').append(x.count(20 + place));
        }
        for (int p = 0; p < x.count(1); p++) {
            all.append(' ').append(textOf(x, p));
        }
        for (int c = 0; c < x.count(0); c++) {
            all.append(" candidate");
            for (int what = 0; what < 6; what++) {
                all.append(' ').append(x.candidate(c, what));
            }
        }
        for (int r = 0; r < x.rounds(); r++) {
            all.append(" round");
            for (int what = 0; what < 7; what++) {
                all.append(' ').append(x.round(r, what));
            }
            for (int p = 0; p < x.count(1); p++) {
                all.append(' ').append(x.where(r, p, 0)).append('*').append(x.where(r, p, 1));
            }
        }
        for (int what = 0; what < 3; what++) {
            all.append(' ').append(recountOf(x, what));
        }
        return all.toString();
    }

    private static String recountOf(ElectionTabulator x, int what) {
        try {
            return String.valueOf(x.recount(what));
        } catch (IllegalStateException nothingDeclared) {
            return "undeclared";
        }
    }

    /** As fails, and the state is the same afterwards. */
    static void refuses(ElectionTabulator x, String what, Class<? extends RuntimeException> due, Call call) {
        String before = dump(x);
        fails(what, due, call);
        isText("the state after " + what, dump(x), before);
    }

    static void isText(String what, String got, String want) {
        calls++;
        if (!got.equals(want)) {
            tell(what + " is " + got + ", due is " + want);
        }
    }
}
