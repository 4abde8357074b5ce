/** Promises 3, 4 and 5: append, execute, errorPosition. */
public final class TextTest {
    private static final String[] PILES = {"1:a;1:a;1:a;1:a;1:a;1:a;", "1:a;1:a;1:a;1:a;1:a;1:a;",
        "1:a;1:a;1:a;1:a;1:a;1:a;", "1:a;1:a;1:a;1:a;1:a;1:a;"};

    public static void main(String[] args) {
        appending();
        appendingTooMuch();
        commands();
        errorsOfForm();
        errorsOfNumbers();
        errorsOfPileNumbers();
        errorsOfRankings();
        errorsOfTooManyPiles();
        afterAnError();
        Check.end();
    }

    private static void appending() {
        ElectionTabulator x = new ElectionTabulator();
        Check.is("append of nothing", x.append(0), 0);
        Check.is("append of four", x.append(Check.pack("12:a")), 4);
        Check.is("append of one in front", x.append('b' << 24), 5);
        Check.is("append of one inside", x.append(';' << 16), 6);
        Check.is("append with a gap", x.append('!' << 24 | 'c'), 8);
        Check.is("append of one behind", x.append('a'), 9);
        Check.is("append of b;", x.append('b' << 16 | ';' << 8), 11);
        Check.is("count(6)", x.count(6), 11);
        Check.is("execute", x.execute(), 2);
        Check.isText("the pile", Check.textOf(x, 0), "12:ab;");
        Check.is("the lot", x.count(20), 2);
        Check.is("count(6) after execute", x.count(6), 0);
        Check.is("the least sign", x.append(33), 1);
        Check.is("the greatest sign", x.append(126), 2);
        for (int wrong : new int[] {1, 32, 127, 128, 255, 32 << 24, 127 << 16, 255 << 24, -1, 'a' << 24 | 10 << 8}) {
            Check.refuses(x, "append(" + wrong + ")", IllegalArgumentException.class, () -> x.append(wrong));
        }
    }

    private static void appendingTooMuch() {
        ElectionTabulator x = new ElectionTabulator();
        for (int i = 1; i <= 14; i++) {
            Check.is("append", x.append(Check.pack("2:a;")), 4 * i);
        }
        Check.is("append of three", x.append(Check.pack("2:a")), 59);
        Check.refuses(x, "append of two to 59", IllegalStateException.class, () -> x.append(Check.pack(";1")));
        Check.is("append of one to 59", x.append(';' << 8), 60);
        Check.is("append of nothing to 60", x.append(0), 60);
        Check.refuses(x, "append of one to 60", IllegalStateException.class, () -> x.append('a'));
        Check.refuses(x, "append of a wrong byte to 60", IllegalArgumentException.class,
            () -> x.append('a' << 8 | 200));
        Check.is("execute of 60 signs", x.execute(), 15);
        Check.is("papers", x.count(2), 30);
    }

    private static void commands() {
        ElectionTabulator x = Check.election(8, 1);
        Check.is("execute", Check.read(x, "0:a;9:hgfedcba;10:bc;99:h;"), 4);
        Check.is("no error", x.errorPosition(), -1);
        Check.isText("pile 0", Check.textOf(x, 0), "0:a;");
        Check.isText("pile 1", Check.textOf(x, 1), "9:hgfedcba;");
        Check.isText("pile 2", Check.textOf(x, 2), "10:bc;");
        Check.isText("pile 3", Check.textOf(x, 3), "99:h;");
        Check.is("execute", Check.read(x, "#1=0;#0=99;~1:da;~3:abcdefgh;"), 4);
        Check.isText("pile 0", Check.textOf(x, 0), "99:a;");
        Check.isText("pile 1", Check.textOf(x, 1), "0:da;");
        Check.isText("pile 2", Check.textOf(x, 2), "10:bc;");
        Check.isText("pile 3", Check.textOf(x, 3), "99:abcdefgh;");
        Check.is("execute", Check.read(x, "!hbcdefga;5:c;#4=7;~4:e;!bhcdefga;#4=8;"), 6);
        Check.isText("pile 4", Check.textOf(x, 4), "8:e;");
        int[] lot = {1, 7, 2, 3, 4, 5, 6, 0};
        for (int place = 0; place < 8; place++) {
            Check.is("lot at " + place, x.count(20 + place), lot[place]);
        }
    }

    private static void error(int candidates, String[] before, String text, int position) {
        Check.errorAt(Check.election(candidates, 1, before), text, position);
    }

    private static void error(String text, int position) {
        error(3, new String[] {"1:a;"}, text, position);
    }

    private static void errorsOfForm() {
        error("", 0);
        error("a", 0);
        error(";", 0);
        error("x:a;", 0);
        error(":a;", 0);
        error("1", 1);
        error("12", 2);
        error("1:", 2);
        error("1:a", 3);
        error("1:a;2", 5);
        error("1:a;;", 4);
        error("1:a;~", 5);
        error("1=a;", 1);
        error("1;", 1);
        error("1a;", 1);
        error("#", 1);
        error("#0", 2);
        error("#0=", 3);
        error("#0=5", 4);
        error("#0=55", 5);
        error("#0:5;", 2);
        error("#0=5:", 4);
        error("#0=a;", 3);
        error("#=1;", 1);
        error("#a=1;", 1);
        error("~0=a;", 2);
        error("~:a;", 1);
        error("~0:", 3);
        error("~0", 2);
        error("~0:a", 4);
        error("!", 1);
        error("!a", 2);
        error("!abc", 4);
        error("!1;", 1);
        error("1:a;~0:b;#0=1;!cab;?", 19);
    }

    private static void errorsOfNumbers() {
        error("00:a;", 1);
        error("05:a;", 1);
        error("123:a;", 2);
        error("100:a;", 2);
        error("#0=01;", 4);
        error("#0=00;", 4);
        error("#0=100;", 5);
        error("#00=1;", 2);
        error("~00:a;", 2);
    }

    private static void errorsOfPileNumbers() {
        error("#1=5;", 1);
        error("#9=5;", 1);
        error("#99=5;", 1);
        error("~1:a;", 1);
        error("~24:a;", 1);
        error("1:b;~2:a;", 5);
        error("1:b;1:b;#3=1;", 9);
        // As soon as the number has been read: whatever stands behind it is not reached.
        error("#1", 1);
        error("#12", 1);
        error("#1x", 1);
        error("#123", 1);
        error("~7", 1);
        error("~7=", 1);
        // A 0 is a whole number, so the pile is missed before the digit behind it is.
        error(3, new String[0], "#0", 1);
        error(3, new String[0], "#05=1;", 1);
        error(3, new String[0], "#0=1;1:a;", 1);
        error(3, new String[0], "~00:a;", 1);
        ElectionTabulator x = Check.election(3, 1, "1:a;");
        Check.is("piles added by the text before count", Check.read(x, "2:b;#1=3;~1:c;3:a;#2=4;"), 5);
        Check.isText("pile 1", Check.textOf(x, 1), "3:c;");
        Check.isText("pile 2", Check.textOf(x, 2), "4:a;");
    }

    private static void errorsOfRankings() {
        error("1:;", 2);
        error("~0:;", 3);
        error("!;", 1);
        error("1:d;", 2);
        error("1:abd;", 4);
        error("1:aa;", 3);
        error("1:aba;", 4);
        error("1:abcd;", 5);
        error("1:abca;", 5);
        error("1:A;", 2);
        error("1:`;", 2);
        error("1:a,b;", 3);
        error("~0:bb;", 4);
        error("~0:d;", 3);
        error("!ab;", 3);
        error("!a;", 2);
        error("!aba;", 3);
        error("!abcd;", 4);
        error("!abca;", 4);
        error("!abd;", 3);
        error(2, new String[0], "1:c;", 2);
        error(8, new String[0], "1:i;", 2);
        error(8, new String[0], "1:abcdefghi;", 10);
        error(8, new String[0], "1:abcdefgha;", 10);
        error(8, new String[0], "!abcdefg;", 8);
        error(8, new String[0], "!abcdefghh;", 9);
    }

    private static void errorsOfTooManyPiles() {
        error(3, PILES, "1:a;", 0);
        error(3, PILES, "1", 0);
        error(3, PILES, "9x", 0);
        error(3, PILES, "#23=5;0:a;", 6);
        error(3, PILES, "x", 0);
        error(3, PILES, "#24=5;", 1);
        ElectionTabulator x = Check.election(3, 1, PILES);
        Check.is("changes with 24 piles", Check.read(x, "#23=5;~23:bc;!cba;"), 3);
        Check.isText("pile 23", Check.textOf(x, 23), "5:bc;");
        error(3, new String[] {PILES[0], PILES[1], PILES[2], "1:a;1:a;1:a;1:a;1:a;"}, "2:b;~23:a;2:b;", 10);
        ElectionTabulator y = Check.election(3, 1, PILES[0], PILES[1], PILES[2], "1:a;1:a;1:a;1:a;1:a;", "2:b;");
        Check.is("24 piles", y.count(1), 24);
    }

    private static void afterAnError() {
        ElectionTabulator x = new ElectionTabulator();
        Check.type(x, "1:a;2:bz;");
        Check.illegalArgument("execute", x::execute);
        Check.is("error", x.errorPosition(), 7);
        Check.is("no command was executed", x.count(1), 0);
        Check.is("nothing to undo", x.count(5), 0);
        x.append('1');
        Check.is("the error stays while text is appended", x.errorPosition(), 7);
        Check.type(x, ":ab;");
        Check.is("execute", x.execute(), 1);
        Check.is("no error", x.errorPosition(), -1);
        Check.illegalArgument("execute of an empty buffer", x::execute);
        Check.is("error", x.errorPosition(), 0);
        x.undo();
        Check.is("the error stays after undo", x.errorPosition(), 0);
        Check.is("the buffer stays empty after undo", x.count(6), 0);
    }
}
