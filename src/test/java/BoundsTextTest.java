/** The bounds of the Description's part Text and of promises 3 to 5: append, execute, errorPosition. */
public final class BoundsTextTest {
    private static final String DIGITS = "0123456789";
    private static final String COMMANDS = DIGITS + "#~!";

    public static void main(String[] args) {
        bufferOfSixty();
        noCommandOneAndFifteen();
        signsOfAPile();
        signsOfASize();
        signsOfAReplacement();
        signsOfALot();
        rankingsOfOneToEight();
        numbersOfOneOrTwoDigits();
        whatTheCommandsDo();
        firstErrorFromTheLeft();
        candidateThatThereIsNot();
        candidateThatIsInTheRanking();
        lotInWhichACandidateIsMissing();
        twentyFifthPile();
        whateverFollowsATwentyFifthPile();
        numberOfAPileThatDoesNotExist();
        pilesAddedByTheText();
        textThatEndsTooEarly();
        bytesInTheirOrder();
        lengthOfTheBuffer();
        wrongBytes();
        moreThanSixty();
        commandsInTheirOrder();
        emptyBufferAfterwards();
        noCommandIsExecuted();
        numberOfCommands();
        refusedText();
        mostRecentError();
        noError();
        Check.end();
    }

    private static ElectionTabulator withPiles(int piles) {
        ElectionTabulator x = new ElectionTabulator();
        for (int p = 0; p < piles; p++) {
            Check.read(x, "7:ab;");
        }
        return x;
    }

    /** Behind a prefix these signs are allowed, and of the others from 33 to 126 each one is the error. */
    private static void allowed(int piles, String prefix, String signs) {
        for (char sign = 33; sign <= 126; sign++) {
            ElectionTabulator x = withPiles(piles);
            Check.type(x, prefix + sign);
            int position = prefix.length();
            try {
                x.execute();
                Check.is(prefix + sign + " is a whole text", signs.indexOf(sign) >= 0 && sign == ';' ? 1 : 0, 1);
            } catch (IllegalArgumentException wrongOrTooShort) {
                position = x.errorPosition();
            }
            boolean isAllowed = signs.indexOf(sign) >= 0;
            if (isAllowed && sign == ';') {
                Check.is("error in " + prefix + sign, x.errorPosition(), -1);
            } else {
                Check.is("error in " + prefix + sign, position, prefix.length() + (isAllowed ? 1 : 0));
            }
        }
    }

    /** Text: "A buffer holds at most 60 characters." */
    private static void bufferOfSixty() {
        ElectionTabulator x = new ElectionTabulator();
        Check.is("an empty one", x.count(6), 0);
        for (int length = 1; length <= 60; length++) {
            Check.is("one sign more", x.append("1:a;".charAt((length - 1) % 4)), length);
            Check.is("count(6)", x.count(6), length);
        }
        Check.illegalState("the 61st sign", () -> x.append('1'));
        Check.is("count(6)", x.count(6), 60);
        Check.is("all 60 are read", x.execute(), 15);
        Check.is("an empty one again", x.count(6), 0);
        Check.is("a sign", x.append('1'), 1);
    }

    /** Text: "text = command { command }" */
    private static void noCommandOneAndFifteen() {
        Check.errorAt(new ElectionTabulator(), "", 0);
        Check.is("one command", Check.read(new ElectionTabulator(), "1:a;"), 1);
        Check.is("two commands", Check.read(new ElectionTabulator(), "1:a;1:a;"), 2);
        ElectionTabulator x = withPiles(9);
        String fifteen = "1:a;2:a;3:a;4:a;5:a;6:a;7:a;8:a;9:a;0:a;1:b;2:b;3:b;4:b;5:b;";
        Check.is("as many as there is room for", Check.read(x, fifteen), 15);
        Check.is("piles", x.count(1), 24);
        allowed(1, "", COMMANDS);
        allowed(1, "1:a;", COMMANDS);
        allowed(1, "#0=1;", COMMANDS);
        allowed(1, "~0:a;", COMMANDS);
        allowed(1, "!abc;", COMMANDS);
    }

    /** Text: "command = number ':' ranking ';'" */
    private static void signsOfAPile() {
        allowed(0, "0", ":");
        allowed(0, "1", DIGITS + ":");
        allowed(0, "9", DIGITS + ":");
        allowed(0, "10", ":");
        allowed(0, "99", ":");
        allowed(0, "1:", "abc");
        allowed(0, "12:", "abc");
        allowed(0, "12:a", "bc;");
        allowed(0, "12:ca", "b;");
        allowed(0, "12:bca", ";");
    }

    /** Text: "'#' number '=' number ';'" */
    private static void signsOfASize() {
        allowed(10, "#", DIGITS);
        allowed(10, "#0", "=");
        allowed(20, "#1", DIGITS + "=");
        allowed(24, "#10", "=");
        allowed(24, "#23", "=");
        allowed(10, "#9=", DIGITS);
        allowed(24, "#23=", DIGITS);
        allowed(1, "#0=0", ";");
        allowed(1, "#0=1", DIGITS + ";");
        allowed(1, "#0=9", DIGITS + ";");
        allowed(1, "#0=10", ";");
        allowed(1, "#0=99", ";");
    }

    /** Text: "'~' number ':' ranking ';'" */
    private static void signsOfAReplacement() {
        allowed(10, "~", DIGITS);
        allowed(10, "~0", ":");
        allowed(20, "~1", DIGITS + ":");
        allowed(24, "~10", ":");
        allowed(24, "~23", ":");
        allowed(10, "~9:", "abc");
        allowed(24, "~23:", "abc");
        allowed(1, "~0:b", "ac;");
        allowed(1, "~0:bc", "a;");
        allowed(1, "~0:bca", ";");
    }

    /** Text: "'!' ranking ';'" */
    private static void signsOfALot() {
        allowed(1, "!", "abc");
        allowed(1, "!b", "ac");
        allowed(1, "!bc", "a");
        allowed(1, "!bca", ";");
    }

    /** Text: "ranking = candidate { candidate }" */
    private static void rankingsOfOneToEight() {
        ElectionTabulator x = Check.election(8, 1);
        String ranking = "bdfhaceg";
        for (int length = 1; length <= 8; length++) {
            Check.read(x, "1:" + ranking.substring(0, length) + ";");
            Check.isText("the pile", Check.textOf(x, length - 1), "1:" + ranking.substring(0, length) + ";");
            Check.read(x, "~0:" + ranking.substring(8 - length) + ";");
            Check.isText("pile 0", Check.textOf(x, 0), "1:" + ranking.substring(8 - length) + ";");
        }
        Check.errorAt(x, "1:;", 2);
        Check.errorAt(x, "~0:;", 3);
        Check.errorAt(x, "!;", 1);
        Check.errorAt(x, "1:" + ranking + "a;", 10);
        Check.errorAt(x, "~0:" + ranking + "b;", 11);
        Check.errorAt(x, "!" + ranking + "b;", 9);
    }

    /**
     * Text: "A number has one or two digits and does not begin with 0, unless it is 0, behind which no digit is
     * allowed."
     */
    private static void numbersOfOneOrTwoDigits() {
        for (int number = 0; number <= 99; number++) {
            ElectionTabulator x = withPiles(1);
            Check.is("size " + number, Check.read(x, number + ":b;#0=" + number + ";"), 2);
            Check.is("size of the new pile", x.pile(1, 0), number);
            Check.is("size of the old pile", x.pile(0, 0), number);
        }
        ElectionTabulator x = withPiles(24);
        for (int p = 0; p < 24; p++) {
            Check.read(x, "#" + p + "=" + (50 + p) + ";~" + p + ":c;");
            Check.isText("pile " + p, Check.textOf(x, p), (50 + p) + ":c;");
        }
        ElectionTabulator y = withPiles(11);
        for (char digit : DIGITS.toCharArray()) {
            Check.errorAt(y, "0" + digit + ":a;", 1);
            Check.errorAt(y, "10" + digit + ":a;", 2);
            Check.errorAt(y, "#0" + digit + "=1;", 2);
            Check.errorAt(y, "#10" + digit + "=1;", 3);
            Check.errorAt(y, "#1=0" + digit + ";", 4);
            Check.errorAt(y, "#1=99" + digit + ";", 5);
            Check.errorAt(y, "~0" + digit + ":a;", 2);
            Check.errorAt(y, "~10" + digit + ":a;", 3);
        }
    }

    /**
     * Text: "The commands add a pile with a size and a ranking; set the size of a pile; replace the ranking of a pile;
     * and set the lot."
     */
    private static void whatTheCommandsDo() {
        ElectionTabulator x = Check.election(8, 1);
        Check.read(x, "0:a;99:abcdefgh;");
        Check.isText("the first pile", Check.textOf(x, 0), "0:a;");
        Check.isText("the second pile", Check.textOf(x, 1), "99:abcdefgh;");
        Check.read(x, "#0=99;#1=0;");
        Check.isText("another size", Check.textOf(x, 0), "99:a;");
        Check.isText("no size", Check.textOf(x, 1), "0:abcdefgh;");
        Check.read(x, "~0:hgfedcba;~1:d;");
        Check.isText("a longer ranking", Check.textOf(x, 0), "99:hgfedcba;");
        Check.isText("a shorter ranking", Check.textOf(x, 1), "0:d;");
        Check.is("the lot before", x.count(20), 0);
        Check.read(x, "!hbcdefga;");
        Check.is("the first one of the lot", x.count(20), 7);
        Check.is("the last one of the lot", x.count(27), 0);
        Check.is("piles", x.count(1), 2);
    }

    /**
     * Text: "The text is read from left to right, and the first error is reported at its position: at a character that
     * is not allowed"
     */
    private static void firstErrorFromTheLeft() {
        ElectionTabulator x = withPiles(1);
        Check.errorAt(x, ";:a;#9=1;", 0);
        Check.errorAt(x, "1;#9=1;!a;", 1);
        Check.errorAt(x, "1:a:#9=1;", 3);
        Check.errorAt(x, "1:a;#9=100;", 5);
        Check.errorAt(x, "1:a;#1=100;", 9);
        Check.errorAt(x, "!abc;!acb;!a;1:x;", 12);
        Check.errorAt(x, "1:a;1:a;1:a;1:a;1:a;1:a;1:a;1:a;1:a;1:a;1:a;1:a;1:a;1:a;1:a:", 59);
    }

    /** Text: "which includes a candidate that there is not" */
    private static void candidateThatThereIsNot() {
        for (int candidates = 2; candidates <= 8; candidates++) {
            ElectionTabulator x = Check.election(candidates, 1, "1:a;");
            String there = "abcdefgh".substring(0, candidates);
            char more = (char) ('a' + candidates);
            Check.errorAt(x, "1:" + more + ";", 2);
            Check.errorAt(x, "1:" + there.substring(1) + more + ";", candidates + 1);
            Check.errorAt(x, "1:" + there + more + ";", candidates + 2);
            Check.errorAt(x, "~0:" + more + ";", 3);
            Check.errorAt(x, "!" + there.substring(1) + more + ";", candidates);
            Check.errorAt(x, "!" + there + more + ";", candidates + 1);
        }
        ElectionTabulator withdrawn = Check.election(2, 1);
        withdrawn.withdraw(1);
        Check.is("a withdrawn one is there", Check.read(withdrawn, "1:b;!ba;"), 2);
    }

    /** Text: "or that is in this ranking already" */
    private static void candidateThatIsInTheRanking() {
        ElectionTabulator x = Check.election(8, 1, "1:a;");
        String ranking = "abcdefgh";
        for (int length = 1; length <= 8; length++) {
            for (int k = 0; k < length; k++) {
                String again = ranking.substring(0, length) + ranking.charAt(k);
                ElectionTabulator y = Check.election(8, 1, "1:a;");
                Check.errorAt(y, "1:" + again + ";", 2 + length);
                Check.errorAt(y, "~0:" + again + ";", 3 + length);
                Check.errorAt(y, "!" + again + ";", 1 + length);
            }
        }
        Check.is("in another ranking it may be", Check.read(x, "1:ab;1:ab;~0:ab;!abcdefgh;!abcdefgh;"), 5);
    }

    /** Text: "and the ; of a lot in which a candidate is missing" */
    private static void lotInWhichACandidateIsMissing() {
        for (int candidates = 2; candidates <= 8; candidates++) {
            String all = "abcdefgh".substring(0, candidates);
            ElectionTabulator x = Check.election(candidates, 1);
            for (int length = 0; length < candidates; length++) {
                Check.errorAt(x, "!" + all.substring(0, length) + ";", 1 + length);
                Check.errorAt(x, "!" + all.substring(candidates - length) + ";1:a;", 1 + length);
            }
            Check.is("a lot with all", Check.read(x, "!" + all + ";"), 1);
            x.withdraw(0);
            Check.errorAt(x, "!" + all.substring(1) + ";", candidates);
        }
    }

    /** Text: "at the first character of a command" "if there would be more than 24 piles" */
    private static void twentyFifthPile() {
        ElectionTabulator x = withPiles(23);
        Check.errorAt(x, "1:a;1:b;", 4);
        Check.errorAt(x, "1:a;#23=5;12:b;", 10);
        Check.errorAt(x, "!cba;1:a;~0:b;0:a;", 14);
        Check.is("the 24th pile", Check.read(x, "1:a;"), 1);
        Check.is("piles", x.count(1), 24);
        Check.errorAt(x, "1:a;", 0);
        Check.errorAt(x, "!cba;1:a;", 5);
        Check.is("the other commands", Check.read(x, "#23=5;~23:b;!cba;"), 3);
        x.undo();
        x.undo();
        Check.is("the 24th pile after undo", Check.read(x, "1:a;"), 1);
    }

    /** Text: "whatever follows" */
    private static void whateverFollowsATwentyFifthPile() {
        ElectionTabulator x = withPiles(24);
        for (String text : new String[] {"1", "1x", "00:a;", "123:a;", "1:", "1:aa;", "1:a", "1:;", "x", ";"}) {
            Check.errorAt(x, text, 0);
            Check.errorAt(x, "#0=1;" + text, 5);
        }
        Check.errorAt(x, "", 0);
    }

    /** Text: "at the first digit of the number of a pile that does not exist, as soon as the number has been read" */
    private static void numberOfAPileThatDoesNotExist() {
        for (int piles : new int[] {0, 1, 9, 10, 11, 23, 24}) {
            ElectionTabulator x = withPiles(piles);
            for (String text : new String[] {"#" + piles + "=1;", "#" + piles, "#" + piles + "x", "#99=1;", "#99",
                    "~" + piles + ":a;", "~" + piles, "~" + piles + ";", "~99:a;", "~99x"}) {
                Check.errorAt(x, text, 1);
            }
            Check.errorAt(x, "!abc;#" + piles + "=1;", 6);
        }
        ElectionTabulator none = withPiles(0);
        Check.errorAt(none, "#05=1;", 1);
        Check.errorAt(none, "~0x", 1);
        ElectionTabulator five = withPiles(5);
        Check.errorAt(five, "#4", 2);
        Check.errorAt(five, "#4x", 2);
        Check.errorAt(five, "#40=1;", 1);
        Check.errorAt(five, "~4", 2);
        Check.is("the last one that exists", Check.read(five, "#4=1;~4:c;"), 2);
    }

    /** Text: "where piles added by the text before count" */
    private static void pilesAddedByTheText() {
        ElectionTabulator x = withPiles(0);
        Check.errorAt(x, "#0=1;1:a;", 1);
        Check.errorAt(x, "1:a;#1=1;1:a;", 5);
        Check.errorAt(x, "1:a;~1:b;1:a;", 5);
        Check.is("the pile before", Check.read(x, "1:a;#0=2;~0:b;1:c;#1=3;~1:ca;"), 6);
        Check.isText("pile 0", Check.textOf(x, 0), "2:b;");
        Check.isText("pile 1", Check.textOf(x, 1), "3:ca;");
    }

    /** Text: "or at the length of the text if it ends too early." */
    private static void textThatEndsTooEarly() {
        String whole = "12:ab;#10=34;~10:c;!bca;";
        for (int length = 0; length < whole.length(); length++) {
            String text = whole.substring(0, length);
            ElectionTabulator x = withPiles(11);
            if (text.endsWith(";")) {
                Check.read(x, text);
                Check.is("a whole text", x.errorPosition(), -1);
            } else {
                Check.errorAt(x, text, length);
            }
        }
        Check.errorAt(withPiles(0), "1:a;1:a;1:a;1:a;1:a;1:a;1:a;1:a;1:a;1:a;1:a;1:a;1:a;1:a;1:ab", 60);
    }

    /**
     * Promise 3: "Appends up to four characters to the buffer: the bytes of an int from the most significant one to the
     * least significant one, where bytes that are 0 are skipped."
     */
    private static void bytesInTheirOrder() {
        for (int skipped = 0; skipped < 16; skipped++) {
            ElectionTabulator x = new ElectionTabulator();
            StringBuilder there = new StringBuilder();
            int packed = 0;
            for (int k = 0; k < 4; k++) {
                boolean zero = (skipped >> k & 1) != 0;
                packed = packed << 8 | (zero ? 0 : "cbad".charAt(k));
                there.append(zero ? "" : "cba!".substring(k, k + 1));
            }
            x.begin(4, 1);
            Check.type(x, "1:");
            Check.is("append(" + packed + ")", x.append(packed), 2 + there.length());
            if (there.length() == 0) {
                Check.type(x, "a");
            }
            x.append(';');
            x.execute();
            String due = there.length() == 0 ? "a" : there.toString().replace('!', 'd');
            Check.isText("the pile", Check.textOf(x, 0), "1:" + due + ";");
        }
    }

    /** Promise 3: "Returns the number of characters in the buffer." */
    private static void lengthOfTheBuffer() {
        ElectionTabulator x = new ElectionTabulator();
        Check.is("nothing to an empty buffer", x.append(0), 0);
        Check.is("four", x.append(Check.pack("1:a;")), 4);
        Check.is("nothing to four", x.append(0), 4);
        x.execute();
        Check.is("one after execute", x.append('1'), 1);
        Check.is("three", x.append(Check.pack(":a;")), 4);
        for (int length = 8; length <= 60; length += 4) {
            Check.is("four more", x.append(Check.pack("1:a;")), length);
        }
        Check.is("nothing to a full buffer", x.append(0), 60);
    }

    /** Promise 3: "Throws `IllegalArgumentException` if a byte that is not 0 is not from 33 to 126" */
    private static void wrongBytes() {
        for (int shift = 0; shift <= 24; shift += 8) {
            int others = Check.pack("1:a;") & ~(255 << shift);
            for (int value = 0; value <= 255; value++) {
                ElectionTabulator x = new ElectionTabulator();
                int alone = value << shift;
                int among = others | alone;
                if (value == 0 || value >= 33 && value <= 126) {
                    Check.is("append(" + alone + ")", x.append(alone), value == 0 ? 0 : 1);
                    Check.is("append(" + among + ")", x.append(among), value == 0 ? 3 : 5);
                } else {
                    Check.illegalArgument("append(" + alone + ")", () -> x.append(alone));
                    Check.illegalArgument("append(" + among + ")", () -> x.append(among));
                    Check.is("the buffer stays empty", x.count(6), 0);
                }
            }
        }
        for (int wrong : new int[] {32, 127, 1 << 24, 128 << 16, 255 << 8, 'a' << 24 | 'b' << 16 | 32, -1}) {
            Twins.refuse("append(" + wrong + ")", IllegalArgumentException.class, Twins::rich, x -> x.append(wrong));
        }
    }

    /** Promise 3: "Throws `IllegalStateException` if there would be more than 60 characters" */
    private static void moreThanSixty() {
        for (int before = 55; before <= 60; before++) {
            for (int added = 0; added <= 4; added++) {
                int length = before;
                int packed = Check.pack("::::".substring(0, added));
                if (before + added <= 60) {
                    Check.is("append to " + before, filled(length).append(packed), before + added);
                } else {
                    Twins.refuse("append of " + added + " to " + before, IllegalStateException.class,
                        () -> filled(length), x -> x.append(packed));
                }
            }
        }
        ElectionTabulator x = filled(58);
        Check.illegalState("more than there is room for", () -> x.append(Check.pack("a;1")));
        Check.is("as much as there is room for", x.append('a' << 24 | ';'), 60);
        Check.is("execute", x.execute(), 15);
    }

    private static ElectionTabulator filled(int length) {
        ElectionTabulator x = new ElectionTabulator();
        for (int i = 0; i < length; i++) {
            x.append("1:a;".charAt(i % 4));
        }
        return x;
    }

    /** Promise 4: "Reads the text in the buffer and executes its commands in their order." */
    private static void commandsInTheirOrder() {
        ElectionTabulator x = new ElectionTabulator();
        Check.read(x, "1:a;#0=2;~0:b;#0=3;~0:c;#0=0;!cba;!bca;");
        Check.isText("the pile", Check.textOf(x, 0), "0:c;");
        Check.is("the first of the lot", x.count(20), 1);
        Check.is("the last of the lot", x.count(22), 0);
        Check.read(x, "2:a;3:b;#1=4;5:c;");
        Check.isText("pile 1", Check.textOf(x, 1), "4:a;");
        Check.isText("pile 2", Check.textOf(x, 2), "3:b;");
        Check.isText("pile 3", Check.textOf(x, 3), "5:c;");
    }

    /** Promise 4: "The buffer is empty afterwards, also if an exception is thrown" */
    private static void emptyBufferAfterwards() {
        ElectionTabulator x = filled(60);
        x.execute();
        Check.is("the buffer after a full text", x.count(6), 0);
        Check.illegalArgument("execute of an empty text", x::execute);
        Check.is("the buffer after an empty text", x.count(6), 0);
        Check.type(x, "1:ab;1:a");
        Check.illegalArgument("execute of half a text", x::execute);
        Check.is("the buffer after half a text", x.count(6), 0);
        Check.errorAt(x, ";", 0);
        Check.errorAt(x, "x1:a;", 0);
        Check.is("nothing is left of the wrong texts", Check.read(x, "2:b;"), 1);
        Check.is("piles", x.count(1), 16);
    }

    /** Promise 4: "if there is an error in the text, no command is executed." */
    private static void noCommandIsExecuted() {
        String right = "5:c;#0=9;~0:cb;!cba;";
        String[] wrong = {"x", "1", "1:d;", "#3=1;", "#0=100;", "~3:a;", "!ab;", "1:aa;"};
        int[] position = {0, 1, 2, 1, 5, 1, 3, 3};
        for (int i = 0; i < wrong.length; i++) {
            ElectionTabulator x = Check.election(3, 1, "1:a;2:b;");
            Check.errorAt(x, right + wrong[i], right.length() + position[i]);
            Check.isText("pile 0", Check.textOf(x, 0), "1:a;");
            Check.is("the lot", x.count(20), 0);
            Check.is("undo of the text before", x.undo(), 0);
            Check.is("piles", x.count(1), 0);
        }
        ElectionTabulator y = Check.election(3, 1, "1:a;2:b;");
        Check.is("without the error all are executed", Check.read(y, right), 4);
        Check.isText("pile 0", Check.textOf(y, 0), "9:cb;");
    }

    /** Promise 4: "Returns the number of commands." */
    private static void numberOfCommands() {
        StringBuilder text = new StringBuilder();
        for (int commands = 1; commands <= 15; commands++) {
            text.append("1:a;");
            Check.is("the number of commands", Check.read(new ElectionTabulator(), text.toString()), commands);
        }
        Check.is("one of each kind", Check.read(new ElectionTabulator(), "1:a;#0=2;~0:b;!cba;"), 4);
        ElectionTabulator two = Check.election(2, 1);
        Check.is("lots alone", Check.read(two, "!ab;!ba;!ab;!ba;!ab;!ba;!ab;!ba;!ab;!ba;!ab;!ba;!ab;!ba;!ab;"), 15);
    }

    /** Promise 4: "Throws `IllegalArgumentException` if there is an error in the text" */
    private static void refusedText() {
        ElectionTabulator x = new ElectionTabulator();
        Check.illegalArgument("execute of a new object", x::execute);
        for (String text : new String[] {"a", "1", "1:", "1:a", "1:a;1", "#0=1;", "~0:a;", "!ab;"}) {
            Check.type(x, text);
            Check.illegalArgument("execute of " + text, x::execute);
            Check.is("piles after " + text, x.count(1), 0);
            Check.is("calls to undo after " + text, x.count(5), 0);
        }
        Check.is("a right text", Check.read(x, "1:a;"), 1);
    }

    /** Promise 5: "Returns the position of the error in the text that execute read most recently." */
    private static void mostRecentError() {
        ElectionTabulator x = new ElectionTabulator();
        Check.errorAt(x, "", 0);
        Check.errorAt(x, "1:a;1:ad;", 7);
        Check.is("the same once more", x.errorPosition(), 7);
        Check.errorAt(x, "1:", 2);
        x.append(Check.pack("1:a;"));
        Check.is("append does not read", x.errorPosition(), 2);
        x.set(3, 2);
        x.withdraw(0);
        x.save();
        x.restore();
        x.begin(4, 1);
        Check.is("what is no text does not count", x.errorPosition(), 2);
        Check.is("execute", x.execute(), 1);
        Check.is("no error in this text", x.errorPosition(), -1);
        Check.errorAt(x, "1:a;1:a;1:a;1:a;1:a;1:a;1:a;1:a;1:a;1:a;1:a;1:a;1:a;1:a;1:ab", 60);
        x.undo();
        Check.is("undo does not read", x.errorPosition(), 60);
    }

    /** Promise 5: "Returns the index of the character, or -1 if that text had no error or execute was not called." */
    private static void noError() {
        ElectionTabulator x = new ElectionTabulator();
        Check.is("execute was not called", x.errorPosition(), -1);
        Check.type(x, "x");
        Check.is("execute was not called yet", x.errorPosition(), -1);
        Check.illegalArgument("execute", x::execute);
        Check.is("the first character", x.errorPosition(), 0);
        Check.read(x, "1:a;");
        Check.is("no error", x.errorPosition(), -1);
        Check.errorAt(x, "1:a;1:a;1:a;1:a;1:a;1:a;1:a;1:a;1:a;1:a;1:a;1:a;1:a;1:a;1:az", 59);
    }
}
