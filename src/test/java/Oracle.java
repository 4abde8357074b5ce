import java.math.BigInteger;
import java.util.ArrayDeque;
import java.util.ArrayList;
import java.util.Collections;
import java.util.Deque;
import java.util.List;
import java.util.NoSuchElementException;
import java.util.TreeMap;

/**
 * The document once more, written as plainly as it can be and in another way than the program:
 * states that are copied whole, lists, exact numbers, and a text that is read by an automaton.
 */
final class Oracle {
    static final class Pile {
        final int size;
        final String ranking;

        Pile(int size, String ranking) {
            this.size = size;
            this.ranking = ranking;
        }

        boolean prefers(int candidate, int other) {
            int at = ranking.indexOf('a' + candidate);
            int otherAt = ranking.indexOf('a' + other);
            return at >= 0 && (otherAt < 0 || at < otherAt);
        }

        String text() {
            return size + ":" + ranking + ";";
        }
    }

    /** Never changed after it has been made, so that undo and snapshots only keep it. */
    static final class State {
        final int candidates;
        final List<Integer> settings;
        final List<Boolean> withdrawn;
        final String lot;
        final List<Pile> piles;

        State(int candidates, List<Integer> settings, List<Boolean> withdrawn, String lot, List<Pile> piles) {
            this.candidates = candidates;
            this.settings = settings;
            this.withdrawn = withdrawn;
            this.lot = lot;
            this.piles = piles;
        }

        int papers() {
            int sum = 0;
            for (Pile pile : piles) {
                sum += pile.size;
            }
            return sum;
        }

        State withPile(Pile pile) {
            List<Pile> more = new ArrayList<>(piles);
            more.add(pile);
            return new State(candidates, settings, withdrawn, lot, more);
        }

        State withPileAt(int index, Pile pile) {
            List<Pile> other = new ArrayList<>(piles);
            other.set(index, pile);
            return new State(candidates, settings, withdrawn, lot, other);
        }

        State withLot(String other) {
            return new State(candidates, settings, withdrawn, other, piles);
        }
    }

    static final class Place {
        int at = -1;
        int holder = -1;
        int came = -1;
        BigInteger worth = BigInteger.valueOf(10000);
    }

    static final class Round {
        int quota;
        int exhausted;
        int lost;
        int event;
        int subject = -1;
        int moved;
        int set;
        final int[] votes = new int[8];
        final int[] holders = new int[25];
        final int[] worths = new int[25];
    }

    /** A result, counted from a state. */
    static final class Outcome {
        /** Rare things that the tests want to have met. */
        static final TreeMap<String, Integer> met = new TreeMap<>();

        final State state;
        final List<Round> rounds = new ArrayList<>();
        final List<Integer> order = new ArrayList<>();
        final int[] status = new int[8];
        final int[] decided = new int[8];
        final int[] reason = new int[8];
        final int[] tieRound = new int[8];
        final boolean[] transferred = new boolean[8];
        final int[] fixed = new int[8];
        final List<Place> places = new ArrayList<>();
        int lost = 0;
        int lastLooked = -1;
        int manner = 3;

        Outcome(State state) {
            this.state = state;
            for (int c = 0; c < 8; c++) {
                status[c] = c < state.candidates && !state.withdrawn.get(c) ? 0 : 3;
                decided[c] = -1;
                tieRound[c] = -1;
                fixed[c] = -1;
            }
            for (int p = 0; p < state.piles.size(); p++) {
                places.add(new Place());
                goOn(p, -1);
            }
            boolean more = true;
            while (more) {
                more = play();
            }
        }

        static void meet(String what) {
            met.merge(what, 1, Integer::sum);
        }

        int unitsOf(int pile) {
            return places.get(pile).worth.intValueExact() * state.piles.get(pile).size;
        }

        int with(int holder) {
            int sum = 0;
            for (int p = 0; p < places.size(); p++) {
                if (places.get(p).holder == holder) {
                    sum += unitsOf(p);
                }
            }
            return sum;
        }

        /** The votes of a candidate: from its papers, or the quota at which its surplus went. */
        int votesOf(int candidate) {
            return fixed[candidate] >= 0 ? fixed[candidate] : with(candidate);
        }

        List<Integer> all(int wanted) {
            List<Integer> found = new ArrayList<>();
            for (int c = 0; c < state.candidates; c++) {
                if (status[c] == wanted) {
                    found.add(c);
                }
            }
            return found;
        }

        int goOn(int pile, int round) {
            Place place = places.get(pile);
            String ranking = state.piles.get(pile).ranking;
            place.holder = -1;
            place.came = round;
            do {
                place.at++;
            } while (place.at < ranking.length() && status[ranking.charAt(place.at) - 'a'] != 0);
            if (place.at < ranking.length()) {
                place.holder = ranking.charAt(place.at) - 'a';
            }
            return unitsOf(pile);
        }

        int quota(Round round) {
            int seats = state.settings.get(3);
            int papers = state.papers();
            switch (state.settings.get(0)) {
                case 0:
                    return 10000 * (Math.floorDiv(papers, seats + 1) + 1);
                case 1:
                    return 10000 * (papers % seats == 0 ? papers / seats : papers / seats + 1);
                case 2:
                    return Math.floorDiv(10000 * papers, seats + 1) + 1;
                default:
                    return Math.floorDiv(10000 * papers - round.exhausted - round.lost, seats + 1) + 1;
            }
        }

        boolean play() {
            Round round = new Round();
            int number = rounds.size();
            round.exhausted = with(-1);
            round.lost = lost;
            round.quota = quota(round);
            for (int c = 0; c < state.candidates; c++) {
                round.votes[c] = status[c] == 3 ? 0 : votesOf(c);
            }
            for (int p = 0; p < places.size(); p++) {
                round.holders[p] = places.get(p).holder;
                round.worths[p] = places.get(p).worth.intValueExact();
            }
            rounds.add(round);
            if (number > 0 && state.settings.get(0) == 3 && round.quota < rounds.get(number - 1).quota) {
                meet("quota fell");
            }
            int seats = state.settings.get(3);
            while (order.size() < seats) {
                List<Integer> able = new ArrayList<>();
                for (int c : all(0)) {
                    if (round.votes[c] >= round.quota) {
                        able.add(c);
                    }
                }
                if (able.isEmpty()) {
                    break;
                }
                elect(pick(able, true), 1);
            }
            if (order.size() == seats) {
                return false;
            }
            if (all(0).size() <= seats - order.size()) {
                while (!all(0).isEmpty()) {
                    elect(pick(all(0), true), 2);
                }
                return false;
            }
            List<Integer> rich = new ArrayList<>();
            for (int c : all(1)) {
                if (!transferred[c] && round.votes[c] > round.quota) {
                    rich.add(c);
                }
            }
            if (rich.isEmpty()) {
                exclude(round, number);
            } else {
                transfer(pick(rich, true), round, number);
            }
            return true;
        }

        void elect(int candidate, int why) {
            if (manner > 3) {
                meet("elected by tie " + manner);
            }
            status[candidate] = 1;
            decided[candidate] = rounds.size() - 1;
            reason[candidate] = why;
            order.add(candidate);
            rounds.get(rounds.size() - 1).set += 1 << candidate;
        }

        void exclude(Round round, int number) {
            int weak = pick(all(0), false);
            meet("excluded " + manner);
            status[weak] = 2;
            decided[weak] = number;
            reason[weak] = manner;
            tieRound[weak] = manner == 4 ? lastLooked : -1;
            round.event = 2;
            round.subject = weak;
            for (int p = 0; p < places.size(); p++) {
                if (places.get(p).holder == weak) {
                    round.moved += goOn(p, number);
                }
            }
        }

        void transfer(int rich, Round round, int number) {
            if (manner > 3) {
                meet("transferred by tie " + manner);
            }
            int surplus = round.votes[rich] - round.quota;
            List<Integer> parcel = parcel(rich);
            BigInteger sum = BigInteger.ZERO;
            for (int p : parcel) {
                sum = sum.add(BigInteger.valueOf(unitsOf(p)));
            }
            for (int p : parcel) {
                Place place = places.get(p);
                if (sum.signum() == 0) {
                    meet("parcel without worth");
                    place.worth = BigInteger.ZERO;
                } else {
                    BigInteger full = place.worth.multiply(BigInteger.valueOf(surplus)).divide(sum);
                    if (full.compareTo(place.worth) > 0) {
                        meet("at most the worth");
                    }
                    place.worth = full.min(place.worth);
                }
                round.moved += goOn(p, number);
            }
            lost += surplus - round.moved;
            fixed[rich] = round.quota;
            transferred[rich] = true;
            round.event = 1;
            round.subject = rich;
        }

        List<Integer> parcel(int rich) {
            TreeMap<Integer, List<Integer>> byRound = new TreeMap<>(Collections.reverseOrder());
            List<Integer> everything = new ArrayList<>();
            for (int p = 0; p < places.size(); p++) {
                if (places.get(p).holder == rich) {
                    everything.add(p);
                    byRound.computeIfAbsent(places.get(p).came, r -> new ArrayList<>()).add(p);
                }
            }
            if (state.settings.get(1) == 0) {
                return everything;
            }
            for (int came : byRound.keySet()) {
                for (int p : byRound.get(came)) {
                    if (came >= 0 && state.piles.get(p).size > 0) {
                        meet("parcel of a round");
                        return byRound.get(came);
                    }
                }
                if (came >= 0) {
                    meet("round without papers passed over");
                }
            }
            return byRound.getOrDefault(-1, new ArrayList<>());
        }

        List<Integer> bestIn(List<Integer> several, Round round, boolean most) {
            List<Integer> best = new ArrayList<>();
            for (int c : several) {
                boolean beaten = false;
                for (int other : several) {
                    beaten |= most ? round.votes[other] > round.votes[c] : round.votes[other] < round.votes[c];
                }
                if (!beaten) {
                    best.add(c);
                }
            }
            return best;
        }

        int pick(List<Integer> among, boolean most) {
            lastLooked = -1;
            manner = 3;
            int now = rounds.size() - 1;
            List<Integer> best = bestIn(among, rounds.get(now), most);
            if (best.size() == 1) {
                return best.get(0);
            }
            List<Integer> looks = new ArrayList<>();
            for (int r = 0; r < now; r++) {
                looks.add(r);
            }
            if (state.settings.get(2) == 0) {
                Collections.reverse(looks);
            }
            return byRounds(best, looks, most);
        }

        int byRounds(List<Integer> several, List<Integer> looks, boolean most) {
            for (int i = 0; i < looks.size(); i++) {
                List<Integer> best = bestIn(several, rounds.get(looks.get(i)), most);
                if (best.size() < several.size()) {
                    lastLooked = looks.get(i);
                    manner = 4;
                    if (best.size() == 1) {
                        return best.get(0);
                    }
                    meet("still several");
                    return byRounds(best, looks.subList(i + 1, looks.size()), most);
                }
            }
            manner = 5;
            String lot = most ? state.lot : new StringBuilder(state.lot).reverse().toString();
            for (char c : lot.toCharArray()) {
                if (several.contains(c - 'a')) {
                    return c - 'a';
                }
            }
            throw new AssertionError("nobody is in the lot");
        }
    }

    private State state = start(3, List.of(0, 0, 0, 1));
    private final Deque<State> past = new ArrayDeque<>();
    private State saved = null;
    private Outcome declared = null;
    private Outcome savedDeclared = null;
    private String buffer = "";
    private int error = -1;
    private Outcome known = null;

    private static State start(int candidates, List<Integer> settings) {
        List<Boolean> none = new ArrayList<>(Collections.nCopies(candidates, false));
        return new State(candidates, settings, none, "abcdefgh".substring(0, candidates), List.of());
    }

    private Outcome outcome() {
        if (known == null || known.state != state) {
            known = new Outcome(state);
        }
        return known;
    }

    private void change(State next) {
        past.addLast(state);
        if (past.size() > 8) {
            past.removeFirst();
        }
        state = next;
    }

    private void checkCandidate(int candidate) {
        if (candidate < 0 || candidate >= state.candidates) {
            throw new IndexOutOfBoundsException();
        }
    }

    private void checkPile(int pile) {
        if (pile < 0 || pile >= state.piles.size()) {
            throw new IndexOutOfBoundsException();
        }
    }

    private Round checkedRound(int round) {
        if (round < 0 || round >= outcome().rounds.size()) {
            throw new IndexOutOfBoundsException();
        }
        return outcome().rounds.get(round);
    }

    private static void argument(boolean right) {
        if (!right) {
            throw new IllegalArgumentException();
        }
    }

    int begin(int candidates, int seats) {
        argument(candidates >= 2 && candidates <= 8 && seats >= 1 && seats <= 7);
        int previous = state.candidates;
        List<Integer> settings = new ArrayList<>(state.settings);
        settings.set(3, seats);
        state = start(candidates, settings);
        past.clear();
        declared = null;
        return previous;
    }

    int append(int packed) {
        StringBuilder more = new StringBuilder();
        for (byte b : BigInteger.valueOf(packed & 0xffffffffL).toByteArray()) {
            if (b != 0) {
                argument(b >= 33 && b <= 126);
                more.append((char) b);
            }
        }
        if (buffer.length() + more.length() > 60) {
            throw new IllegalStateException();
        }
        buffer += more;
        return buffer.length();
    }

    private static final class TextError extends RuntimeException {
        private static final long serialVersionUID = 1;
        final int at;

        TextError(int at) {
            this.at = at;
        }
    }

    int execute() {
        String text = buffer;
        buffer = "";
        error = -1;
        try {
            int[] commands = new int[1];
            State next = new Automaton(state, text).read(commands);
            change(next);
            return commands[0];
        } catch (TextError e) {
            error = e.at;
            throw new IllegalArgumentException();
        }
    }

    /** Reads a text sign by sign; each sign is allowed in the present step or it is the error. */
    private static final class Automaton {
        State draft;
        final String text;
        int step = 0;
        char kind;
        int start;
        int first;
        int number;
        String letters = "";

        Automaton(State state, String text) {
            this.draft = state;
            this.text = text;
        }

        State read(int[] commands) {
            for (int i = 0; i < text.length(); i++) {
                take(text.charAt(i), i);
                if (step == 0) {
                    commands[0]++;
                }
            }
            if (step == 2 && kind != '+') {
                knownPile(number);
            }
            if (step != 0 || text.isEmpty()) {
                throw new TextError(text.length());
            }
            return draft;
        }

        void knownPile(int pile) {
            if (pile >= draft.piles.size()) {
                throw new TextError(start);
            }
        }

        /** The number before the : or the = is whole. */
        void endNumber(int at) {
            if (kind != '+') {
                knownPile(number);
            }
            first = number;
            step = 3;
        }

        /**
         * Steps: 0 a command begins, 1 a number begins, 2 a number may go on, 3 the sign behind it,
         * 4 the second number begins, 5 it may go on, 6 the ; behind it, 7 the letters.
         */
        void take(char c, int at) {
            boolean digit = c >= '0' && c <= '9';
            switch (step) {
                case 0:
                    kind = digit ? '+' : c;
                    letters = "";
                    if (digit) {
                        if (draft.piles.size() == 24) {
                            throw new TextError(at);
                        }
                        step = 1;
                        take(c, at);
                    } else if (c == '#' || c == '~') {
                        step = 1;
                    } else if (c == '!') {
                        step = 7;
                    } else {
                        throw new TextError(at);
                    }
                    return;
                case 1:
                    if (!digit) {
                        throw new TextError(at);
                    }
                    start = at;
                    number = c - '0';
                    step = 2;
                    if (number == 0) {
                        endNumber(at);
                    }
                    return;
                case 2:
                    if (digit) {
                        number = 10 * number + c - '0';
                        endNumber(at);
                    } else {
                        endNumber(at);
                        take(c, at);
                    }
                    return;
                case 3:
                    if (c != (kind == '#' ? '=' : ':')) {
                        throw new TextError(at);
                    }
                    step = kind == '#' ? 4 : 7;
                    return;
                case 4:
                    if (!digit) {
                        throw new TextError(at);
                    }
                    number = c - '0';
                    step = number == 0 ? 6 : 5;
                    return;
                case 5:
                    step = 6;
                    if (digit) {
                        number = 10 * number + c - '0';
                    } else {
                        take(c, at);
                    }
                    return;
                case 6:
                    if (c != ';') {
                        throw new TextError(at);
                    }
                    draft = draft.withPileAt(first, new Pile(number, draft.piles.get(first).ranking));
                    step = 0;
                    return;
                default:
                    takeLetter(c, at);
            }
        }

        void takeLetter(char c, int at) {
            if (c == ';' && letters.length() >= (kind == '!' ? draft.candidates : 1)) {
                if (kind == '!') {
                    draft = draft.withLot(letters);
                } else if (kind == '~') {
                    draft = draft.withPileAt(first, new Pile(draft.piles.get(first).size, letters));
                } else {
                    draft = draft.withPile(new Pile(first, letters));
                }
                step = 0;
                return;
            }
            if ("abcdefgh".substring(0, draft.candidates).indexOf(c) < 0 || letters.indexOf(c) >= 0) {
                throw new TextError(at);
            }
            letters += c;
        }
    }

    int errorPosition() {
        return error;
    }

    int set(int what, int value) {
        int[] least = {0, 0, 0, 1};
        int[] greatest = {3, 1, 1, 7};
        argument(what >= 0 && what <= 3 && value >= least[what] && value <= greatest[what]);
        List<Integer> settings = new ArrayList<>(state.settings);
        int previous = settings.set(what, value);
        change(new State(state.candidates, settings, state.withdrawn, state.lot, state.piles));
        return previous;
    }

    boolean withdraw(int candidate) {
        checkCandidate(candidate);
        List<Boolean> withdrawn = new ArrayList<>(state.withdrawn);
        withdrawn.set(candidate, !withdrawn.get(candidate));
        change(new State(state.candidates, state.settings, withdrawn, state.lot, state.piles));
        return withdrawn.get(candidate);
    }

    int pile(int pile, int what) {
        checkPile(pile);
        Pile it = state.piles.get(pile);
        if (what == 0) {
            return it.size;
        }
        if (what == 1) {
            return it.ranking.length();
        }
        long place = (long) what - 10;
        argument(place >= 0 && place < it.ranking.length());
        return it.ranking.charAt((int) place) - 'a';
    }

    int character(int pile, int index) {
        checkPile(pile);
        String text = state.piles.get(pile).text();
        if (index == -1) {
            return text.length();
        }
        if (index < 0 || index >= text.length()) {
            throw new IndexOutOfBoundsException();
        }
        return text.charAt(index);
    }

    int rounds() {
        return outcome().rounds.size();
    }

    int votes(int round, int candidate) {
        Round it = checkedRound(round);
        checkCandidate(candidate);
        return it.votes[candidate];
    }

    int round(int round, int what) {
        Round it = checkedRound(round);
        argument(what >= 0 && what <= 6);
        return new int[] {it.quota, it.exhausted, it.lost, it.event, it.subject, it.moved, it.set}[what];
    }

    int candidate(int candidate, int what) {
        checkCandidate(candidate);
        argument(what >= 0 && what <= 5);
        Outcome o = outcome();
        return new int[] {o.status[candidate], o.decided[candidate], o.order.indexOf(candidate), o.reason[candidate],
            o.tieRound[candidate], o.rounds.get(o.rounds.size() - 1).votes[candidate]}[what];
    }

    int elected(int place) {
        if (place < 0 || place >= outcome().order.size()) {
            throw new NoSuchElementException();
        }
        return outcome().order.get(place);
    }

    int where(int round, int pile, int what) {
        Round it = checkedRound(round);
        checkPile(pile);
        argument(what == 0 || what == 1);
        return what == 0 ? it.holders[pile] : it.worths[pile];
    }

    float share(int round, int candidate) {
        int units = votes(round, candidate);
        if (state.papers() == 0) {
            throw new ArithmeticException();
        }
        return (float) units / (float) (10000 * state.papers());
    }

    int preferring(int candidate, int other) {
        checkCandidate(candidate);
        checkCandidate(other);
        int sum = 0;
        for (Pile pile : state.piles) {
            if (candidate != other && pile.prefers(candidate, other)) {
                sum += pile.size;
            }
        }
        return sum;
    }

    int beatsAll() {
        int found = -1;
        for (int c = 0; c < state.candidates; c++) {
            boolean all = !state.withdrawn.get(c);
            for (int other = 0; other < state.candidates; other++) {
                if (other != c && !state.withdrawn.get(other)) {
                    all &= preferring(c, other) > preferring(other, c);
                }
            }
            if (all) {
                found = c;
            }
        }
        return found;
    }

    int points(int candidate) {
        checkCandidate(candidate);
        int sum = 0;
        for (Pile pile : state.piles) {
            int place = pile.ranking.indexOf('a' + candidate);
            sum += place < 0 ? 0 : pile.size * (state.candidates - 1 - place);
        }
        return sum;
    }

    int declare() {
        declared = outcome();
        return declared.order.size();
    }

    int recount(int what) {
        argument(what >= 0 && what <= 2);
        if (declared == null) {
            throw new IllegalStateException();
        }
        Outcome now = outcome();
        if (what == 0) {
            int different = 0;
            for (int c = 0; c < state.candidates; c++) {
                different += now.status[c] == declared.status[c] ? 0 : 1;
            }
            return different;
        }
        if (what == 1) {
            for (int i = 0; i < 8; i++) {
                boolean here = i < now.order.size();
                boolean there = i < declared.order.size();
                if (here != there || here && !now.order.get(i).equals(declared.order.get(i))) {
                    return i;
                }
            }
            return -1;
        }
        for (int r = 0; r < now.rounds.size() || r < declared.rounds.size(); r++) {
            if (r >= now.rounds.size() || r >= declared.rounds.size()) {
                return r;
            }
            for (int c = 0; c < state.candidates; c++) {
                if (now.rounds.get(r).votes[c] != declared.rounds.get(r).votes[c]) {
                    return r;
                }
            }
        }
        return -1;
    }

    int needed(int candidate) {
        checkCandidate(candidate);
        for (int papers = 0; papers <= 60; papers++) {
            State trial = state.withPile(new Pile(papers, String.valueOf((char) ('a' + candidate))));
            if (new Outcome(papers == 0 ? state : trial).status[candidate] == 1) {
                return papers;
            }
        }
        return -1;
    }

    int undo() {
        if (past.isEmpty()) {
            throw new IllegalStateException();
        }
        state = past.removeLast();
        return past.size();
    }

    int save() {
        saved = state;
        savedDeclared = declared;
        return state.piles.size();
    }

    int restore() {
        if (saved == null) {
            throw new IllegalStateException();
        }
        state = saved;
        declared = savedDeclared;
        past.clear();
        return state.piles.size();
    }

    int count(int what) {
        switch (what) {
            case 0: return state.candidates;
            case 1: return state.piles.size();
            case 2: return state.papers();
            case 3: return outcome().order.size();
            case 4: return Collections.frequency(state.withdrawn, true);
            case 5: return past.size();
            case 6: return buffer.length();
            default: break;
        }
        if (what >= 10 && what <= 13) {
            return state.settings.get(what - 10);
        }
        argument(what >= 20 && what < 20 + state.candidates);
        return state.lot.charAt(what - 20) - 'a';
    }
}
