/** Promises 10, 11, 12, 15 and 16: rounds, votes, round, where, share. */
public final class RoundsTest {
    public static void main(String[] args) {
        wholeCount();
        firstPileIsExcluded();
        quotas();
        quotasWithoutPapers();
        fallingQuota();
        lastParcelOfARound();
        lastParcelOfTheBeginning();
        atMostTheWorth();
        parcelWithoutWorth();
        mostVotesFirst();
        shares();
        wrongNumbers();
        Check.end();
    }

    private static void wholeCount() {
        ElectionTabulator x = Check.election(4, 2, "9:abc;3:ba;4:cd;2:d;1:bd;");
        Check.is("rounds", x.rounds(), 4);
        Check.round(x, 0, Check.row(70000, 0, 0, 1, 0, 19998, 1), 90000, 40000, 40000, 20000);
        Check.round(x, 1, Check.row(70000, 0, 2, 2, 3, 20000, 0), 70000, 59998, 40000, 20000);
        Check.round(x, 2, Check.row(70000, 20000, 2, 2, 2, 40000, 0), 70000, 59998, 40000, 0);
        Check.round(x, 3, Check.row(70000, 60000, 2, 0, -1, 0, 2), 70000, 59998, 0, 0);
        Check.where(x, 0, 0, 10000, 1, 10000, 2, 10000, 3, 10000, 1, 10000);
        Check.where(x, 1, 1, 2222, 1, 10000, 2, 10000, 3, 10000, 1, 10000);
        Check.where(x, 2, 1, 2222, 1, 10000, 2, 10000, -1, 10000, 1, 10000);
        Check.where(x, 3, 1, 2222, 1, 10000, -1, 10000, -1, 10000, 1, 10000);
    }

    private static void firstPileIsExcluded() {
        ElectionTabulator x = Check.election(3, 1, "1:cb;3:a;2:b;!bac;");
        Check.round(x, 0, Check.row(40000, 0, 0, 2, 2, 10000, 0), 30000, 20000, 10000);
        Check.round(x, 1, Check.row(40000, 0, 0, 2, 1, 30000, 0), 30000, 30000, 0);
        Check.where(x, 1, 1, 10000, 0, 10000, 1, 10000);
        Check.where(x, 2, -1, 10000, 0, 10000, -1, 10000);
        Check.round(x, 2, Check.row(40000, 30000, 0, 0, -1, 0, 1), 30000, 0, 0);
    }

    private static void quotas() {
        ElectionTabulator x = Check.election(5, 3, "4:a;3:b;2:c;1:d;");
        Check.is("rule 0", x.round(0, 0), 30000);
        x.set(0, 1);
        Check.is("rule 1", x.round(0, 0), 40000);
        x.set(0, 2);
        Check.is("rule 2", x.round(0, 0), 25001);
        x.set(0, 3);
        Check.is("rule 3", x.round(0, 0), 25001);
        Check.read(x, "#0=3;");
        x.set(0, 0);
        Check.is("rule 0 of 9 papers", x.round(0, 0), 30000);
        x.set(0, 1);
        Check.is("rule 1 of 9 papers", x.round(0, 0), 30000);
        x.set(0, 2);
        Check.is("rule 2 of 9 papers", x.round(0, 0), 22501);
        Check.read(x, "#0=2;");
        x.set(0, 0);
        Check.is("rule 0 of 8 papers", x.round(0, 0), 30000);
        x.set(3, 2);
        x.set(0, 2);
        Check.is("rule 2 of 8 papers and 2 seats", x.round(0, 0), 26667);
        x.withdraw(1);
        Check.is("rule 2 counts exhausted units", x.round(0, 0), 26667);
        x.set(0, 3);
        Check.is("rule 3 does not", x.round(0, 0), 16667);
        x.set(0, 0);
        Check.is("rule 0 counts exhausted papers", x.round(0, 0), 30000);
    }

    private static void quotasWithoutPapers() {
        ElectionTabulator x = Check.election(4, 2, "0:ba;0:c;");
        Check.is("rule 0", x.round(0, 0), 10000);
        x.set(0, 2);
        Check.is("rule 2", x.round(0, 0), 1);
        x.set(0, 3);
        Check.is("rule 3", x.round(0, 0), 1);
        x.set(0, 1);
        Check.is("rule 1", x.round(0, 0), 0);
        Check.is("rounds", x.rounds(), 1);
        Check.is("two have the quota of 0", x.round(0, 6), 3);
        Check.is("reason", x.candidate(0, 3), 1);
        Check.is("reason of a hopeful one", x.candidate(2, 3), 0);
    }

    private static void fallingQuota() {
        ElectionTabulator x = Check.election(3, 2, "5:ab;5:b;1:c;");
        x.set(0, 3);
        Check.is("rounds", x.rounds(), 1);
        Check.round(x, 0, Check.row(36667, 0, 0, 0, -1, 0, 3), 50000, 50000, 10000);
        ElectionTabulator y = Check.election(4, 2, "6:abc;5:b;5:cb;3:d;");
        y.set(0, 3);
        Check.round(y, 0, Check.row(63334, 0, 0, 2, 3, 30000, 0), 60000, 50000, 50000, 30000);
        Check.round(y, 1, Check.row(53334, 30000, 0, 1, 0, 6666, 1), 60000, 50000, 50000, 0);
        Check.round(y, 2, Check.row(53334, 30000, 0, 0, -1, 0, 2), 53334, 56666, 50000, 0);
        Check.is("rounds", y.rounds(), 3);
    }

    private static void lastParcelOfARound() {
        ElectionTabulator x = Check.election(4, 2, "5:ab;4:cad;0:cab;6:b;6:d;");
        Check.round(x, 1, Check.row(80000, 0, 0, 1, 0, 9999, 1), 90000, 60000, 0, 60000);
        Check.where(x, 2, 1, 1111, 3, 1111, 1, 1111, 1, 10000, 3, 10000);
        x.set(1, 1);
        Check.is("rounds", x.rounds(), 4);
        Check.round(x, 0, Check.row(80000, 0, 0, 2, 2, 40000, 0), 50000, 60000, 40000, 60000);
        Check.where(x, 1, 0, 10000, 0, 10000, 0, 10000, 1, 10000, 3, 10000);
        Check.round(x, 1, Check.row(80000, 0, 0, 1, 0, 10000, 1), 90000, 60000, 0, 60000);
        Check.where(x, 2, 0, 10000, 3, 2500, 1, 2500, 1, 10000, 3, 10000);
        Check.round(x, 2, Check.row(80000, 0, 0, 2, 1, 60000, 0), 80000, 60000, 0, 70000);
        Check.where(x, 3, 0, 10000, 3, 2500, -1, 2500, -1, 10000, 3, 10000);
        Check.round(x, 3, Check.row(80000, 60000, 0, 0, -1, 0, 8), 80000, 0, 0, 70000);
    }

    private static void lastParcelOfTheBeginning() {
        ElectionTabulator x = Check.election(4, 2, "6:ab;5:b;5:d;0:cab;3:c;0:ad;");
        x.set(0, 3);
        x.set(1, 1);
        Check.round(x, 1, Check.row(53334, 30000, 0, 1, 0, 6666, 1), 60000, 50000, 0, 50000);
        Check.where(x, 1, 0, 10000, 1, 10000, 3, 10000, 0, 10000, -1, 10000, 0, 10000);
        // The pile without papers that came in round 0 stays; the one of the beginning goes on.
        Check.where(x, 2, 1, 1111, 1, 10000, 3, 10000, 0, 10000, -1, 10000, 3, 1111);
        Check.round(x, 2, Check.row(53334, 30000, 0, 0, -1, 0, 2), 53334, 56666, 0, 50000);
    }

    private static void atMostTheWorth() {
        ElectionTabulator x = Check.election(4, 2, "6:ab;5:b;5:d;1:ca;3:c;");
        x.set(0, 3);
        x.set(1, 1);
        Check.round(x, 0, Check.row(66667, 0, 0, 2, 2, 40000, 0), 60000, 50000, 40000, 50000);
        Check.round(x, 1, Check.row(56667, 30000, 0, 1, 0, 10000, 1), 70000, 50000, 0, 50000);
        Check.where(x, 2, 0, 10000, 1, 10000, 3, 10000, -1, 10000, -1, 10000);
        Check.round(x, 2, Check.row(52223, 40000, 3333, 2, 3, 50000, 0), 56667, 50000, 0, 50000);
        Check.round(x, 3, Check.row(35556, 90000, 3333, 0, -1, 0, 2), 56667, 50000, 0, 0);
    }

    private static void parcelWithoutWorth() {
        ElectionTabulator x = Check.election(8, 4, "58:abc;28:ade;85:bc;84:cf;36:d;35:e;35:f;66:g;");
        x.set(0, 3);
        x.set(1, 1);
        Check.is("rounds", x.rounds(), 8);
        Check.round(x, 0, Check.row(854001, 0, 0, 1, 0, 5934, 1), 860000, 850000, 840000, 360000);
        Check.round(x, 1, Check.row(853988, 0, 65, 1, 1, 0, 2), 854001, 854002, 840000, 361932);
        Check.is("worth", x.where(1, 0, 1), 69);
        Check.is("worth rounded down to 0", x.where(2, 0, 1), 0);
        Check.round(x, 4, Check.row(783985, 350000, 79, 1, 2, 0, 4), 854001, 853988, 840000, 361932, 350000, 0, 660000,
            0);
        Check.round(x, 5, Check.row(772782, 350000, 56094, 2, 4, 350000, 0), 854001, 853988, 783985, 361932);
        Check.where(x, 5, -1, 0, 3, 69, 1, 10000, 2, 10000);
    }

    private static void mostVotesFirst() {
        ElectionTabulator x = Check.election(5, 3, "9:bd;7:ae;1:c;1:d;1:e;");
        Check.is("first", x.elected(0), 1);
        Check.is("second", x.elected(1), 0);
        Check.round(x, 0, Check.row(50000, 0, 0, 1, 1, 39996, 3), 70000, 90000, 10000, 10000, 10000);
        Check.round(x, 1, Check.row(50000, 0, 4, 1, 0, 19999, 0), 70000, 50000, 10000, 49996, 10000);
        Check.round(x, 2, Check.row(50000, 0, 5, 2, 2, 10000, 0), 50000, 50000, 10000, 49996, 29999);
        Check.round(x, 3, Check.row(50000, 10000, 5, 2, 4, 29999, 0), 50000, 50000, 0, 49996, 29999);
        Check.round(x, 4, Check.row(50000, 39999, 5, 0, -1, 0, 8), 50000, 50000, 0, 49996, 0);
        Check.is("rounds", x.rounds(), 5);
        ElectionTabulator y = Check.election(4, 3, "1:c;2:b;3:d;");
        y.set(0, 1);
        y.withdraw(0);
        Check.is("rounds of as many as seats", y.rounds(), 1);
        int[] order = {3, 1, 2};
        for (int place = 0; place < 3; place++) {
            Check.is("elected(" + place + ")", y.elected(place), order[place]);
        }
    }

    private static void shares() {
        ElectionTabulator x = Check.election(4, 2, "9:abc;3:ba;4:cd;2:d;1:bd;");
        Check.isFloat("share(0, 0)", x.share(0, 0), 90000f / 190000f);
        Check.isFloat("share(1, 1)", x.share(1, 1), 59998f / 190000f);
        Check.isFloat("share(3, 3)", x.share(3, 3), 0f);
        ElectionTabulator all = Check.election(2, 1, "7:b;");
        Check.isFloat("the whole", all.share(0, 1), 1f);
        // Both numbers become floats before the division.
        String big = "99:a;99:a;99:a;99:a;99:a;99:a;";
        ElectionTabulator y = Check.election(2, 1, big, big, "99:a;99:a;99:a;99:a;99:a;97:b;");
        Check.isFloat("share of many", y.share(0, 0), 16830000f / 17800000f);
        Check.outOfBounds("share(4, 0)", () -> (long) x.share(4, 0));
        Check.outOfBounds("share(0, 4)", () -> (long) x.share(0, 4));
        Check.outOfBounds("share(-1, 0)", () -> (long) x.share(-1, 0));
        Check.outOfBounds("share(0, -1)", () -> (long) x.share(0, -1));
        ElectionTabulator none = Check.election(3, 1, "0:ab;");
        Check.refuses(none, "share without papers", ArithmeticException.class, () -> (long) none.share(0, 0));
        Check.refuses(none, "share of no round", IndexOutOfBoundsException.class, () -> (long) none.share(9, 0));
        Check.refuses(none, "share of nobody", IndexOutOfBoundsException.class, () -> (long) none.share(0, 3));
    }

    private static void wrongNumbers() {
        ElectionTabulator x = Check.election(4, 2, "9:abc;3:ba;4:cd;2:d;1:bd;");
        for (int wrong : new int[] {-1, 4, 9, Integer.MAX_VALUE, Integer.MIN_VALUE}) {
            Check.refuses(x, "votes of round " + wrong, IndexOutOfBoundsException.class, () -> x.votes(wrong, 0));
            Check.refuses(x, "votes of candidate " + wrong, IndexOutOfBoundsException.class, () -> x.votes(0, wrong));
            Check.refuses(x, "round(" + wrong + ", 0)", IndexOutOfBoundsException.class, () -> x.round(wrong, 0));
            Check.refuses(x, "round(" + wrong + ", 7)", IndexOutOfBoundsException.class, () -> x.round(wrong, 7));
            Check.refuses(x, "where in " + wrong, IndexOutOfBoundsException.class, () -> x.where(wrong, 0, 0));
            Check.refuses(x, "where(.., 2) in " + wrong, IndexOutOfBoundsException.class, () -> x.where(wrong, 0, 2));
        }
        for (int wrong : new int[] {-1, 5, 24, Integer.MAX_VALUE, Integer.MIN_VALUE}) {
            Check.refuses(x, "where of " + wrong, IndexOutOfBoundsException.class, () -> x.where(0, wrong, 0));
            Check.refuses(x, "where(.., 2) of " + wrong, IndexOutOfBoundsException.class, () -> x.where(0, wrong, 2));
        }
        for (int wrong : new int[] {-1, 7, Integer.MAX_VALUE, Integer.MIN_VALUE}) {
            Check.refuses(x, "round(0, " + wrong + ")", IllegalArgumentException.class, () -> x.round(0, wrong));
        }
        for (int wrong : new int[] {-1, 2, 10, Integer.MAX_VALUE, Integer.MIN_VALUE}) {
            Check.refuses(x, "where(0, 0, " + wrong + ")", IllegalArgumentException.class, () -> x.where(0, 0, wrong));
        }
    }
}
