import java.util.NoSuchElementException;

/**
 * A tabulator for elections with ranked ballots and several seats.
 *
 * Every row is made in a constructor and used again, because all calls of one run share one room:
 * after its construction an object makes nothing but the exceptions that it throws.
 * A set of candidates is an int with bit c for candidate c.
 */
public final class ElectionTabulator {
    private static final int MIN_CANDIDATES = 2;
    private static final int MAX_CANDIDATES = 8;
    private static final int MAX_SEATS = 7;
    private static final int MAX_PILES = 24;
    /** One row more than the limit, because needed counts with a further pile behind all others. */
    private static final int PILE_ROWS = 25;
    /** Every round but the last one excludes a candidate or transfers its surplus, which happens to it once. */
    private static final int MAX_ROUNDS = 9;
    private static final int MAX_TEXT = 60;
    private static final int MAX_UNDO = 8;
    private static final int MAX_NEEDED = 60;
    private static final int WHOLE_PAPER = 10000;

    /** The places of the settings, which are the numbers that the methods set and count take for them. */
    private static final int QUOTA_RULE = 0;
    private static final int TRANSFER_RULE = 1;
    private static final int TIE_RULE = 2;
    private static final int SEATS = 3;
    private static final int SETTINGS = 4;

    private static final int HOPEFUL = 0;
    private static final int ELECTED = 1;
    private static final int EXCLUDED = 2;
    private static final int WITHDRAWN = 3;

    private static final int NO_REASON = 0;
    private static final int HAD_QUOTA = 1;
    private static final int SEATS_LEFT = 2;
    private static final int FEWEST_VOTES = 3;
    private static final int BROKEN_BY_ROUND = 4;
    private static final int BROKEN_BY_LOT = 5;

    private static final int LAST_ROUND = 0;
    private static final int SURPLUS_TRANSFERRED = 1;
    private static final int CANDIDATE_EXCLUDED = 2;

    private static final int NONE = -1;
    /** The round in which the piles came to the candidates with whom they are from the beginning. */
    private static final int BEGINNING = -1;

    private final Election election;
    private final Election draft;
    private final Election trialElection;
    private final Counting present;
    private final Counting trial;
    private final TextReader reader;
    private final History history;
    private final Result declared;
    private final Election savedElection;
    private final Result savedDeclared;
    private boolean isCounted;
    private boolean isDeclared;
    private boolean isSaved;
    private boolean isSavedDeclared;

    public ElectionTabulator() {
        election = new Election();
        draft = new Election();
        trialElection = new Election();
        present = new Counting(election);
        trial = new Counting(trialElection);
        reader = new TextReader();
        history = new History();
        declared = new Result();
        savedElection = new Election();
        savedDeclared = new Result();
    }

    public int begin(int candidates, int seats) throws IllegalArgumentException {
        if (candidates < MIN_CANDIDATES || candidates > MAX_CANDIDATES) {
            throw new IllegalArgumentException("candidates out of range");
        }
        if (seats < 1 || seats > MAX_SEATS) {
            throw new IllegalArgumentException("seats out of range");
        }
        int previous = election.candidates;
        election.startAgain(candidates, seats);
        isCounted = false;
        isDeclared = false;
        history.forgetAll();
        return previous;
    }

    public int append(int packed) throws IllegalArgumentException, IllegalStateException {
        int added = 0;
        for (int shift = 24; shift >= 0; shift -= 8) {
            int sign = (packed >>> shift) & 255;
            if (sign != 0) {
                if (sign < 33 || sign > 126) {
                    throw new IllegalArgumentException("a byte is no character of a text");
                }
                added++;
            }
        }
        if (reader.length + added > MAX_TEXT) {
            throw new IllegalStateException("the buffer is full");
        }
        for (int shift = 24; shift >= 0; shift -= 8) {
            int sign = (packed >>> shift) & 255;
            if (sign != 0) {
                reader.addSign(sign);
            }
        }
        return reader.length;
    }

    public int execute() throws IllegalArgumentException {
        draft.copyFrom(election);
        int commands = reader.readInto(draft);
        reader.clear();
        if (commands == NONE) {
            throw new IllegalArgumentException("an error in the text");
        }
        rememberForUndo();
        election.copyFrom(draft);
        return commands;
    }

    public int errorPosition() {
        return reader.error;
    }

    public int set(int what, int value) throws IllegalArgumentException {
        if (what < 0 || what >= SETTINGS) {
            throw new IllegalArgumentException("no such setting");
        }
        if (value < leastSetting(what) || value > greatestSetting(what)) {
            throw new IllegalArgumentException("value out of range");
        }
        int previous = election.settings[what];
        rememberForUndo();
        election.settings[what] = value;
        return previous;
    }

    public boolean withdraw(int candidate) throws IndexOutOfBoundsException {
        if (!isCandidate(candidate)) {
            throw new IndexOutOfBoundsException("no such candidate");
        }
        rememberForUndo();
        election.withdrawn ^= 1 << candidate;
        return contains(election.withdrawn, candidate);
    }

    public int pile(int pile, int what) throws IndexOutOfBoundsException, IllegalArgumentException {
        if (!isPile(pile)) {
            throw new IndexOutOfBoundsException("no such pile");
        }
        if (what == 0) {
            return election.sizes[pile];
        }
        if (what == 1) {
            return election.lengths[pile];
        }
        if (what < 10 || what >= 10 + election.lengths[pile]) {
            throw new IllegalArgumentException("no such property or place");
        }
        return election.rankings[pile][what - 10];
    }

    public int character(int pile, int index) throws IndexOutOfBoundsException {
        if (!isPile(pile)) {
            throw new IndexOutOfBoundsException("no such pile");
        }
        int digits = election.sizes[pile] > 9 ? 2 : 1;
        int length = digits + election.lengths[pile] + 2;
        if (index < NONE || index >= length) {
            throw new IndexOutOfBoundsException("no such character");
        }
        if (index == NONE) {
            return length;
        }
        return signOfPile(pile, index, digits);
    }

    public int rounds() {
        return counted().result.rounds;
    }

    public int votes(int round, int candidate) throws IndexOutOfBoundsException {
        return checkedVotes(counted().result, round, candidate);
    }

    public int round(int round, int what) throws IndexOutOfBoundsException, IllegalArgumentException {
        Counting counting = counted();
        if (!counting.result.hasRound(round)) {
            throw new IndexOutOfBoundsException("no such round");
        }
        RoundLog log = counting.log;
        switch (what) {
            case 0: return log.quota[round];
            case 1: return log.exhausted[round];
            case 2: return log.lost[round];
            case 3: return log.event[round];
            case 4: return log.subject[round];
            case 5: return log.moved[round];
            case 6: return log.newlyElected[round];
            default: throw new IllegalArgumentException("no such number about a round");
        }
    }

    public int candidate(int candidate, int what) throws IndexOutOfBoundsException, IllegalArgumentException {
        if (!isCandidate(candidate)) {
            throw new IndexOutOfBoundsException("no such candidate");
        }
        Counting counting = counted();
        switch (what) {
            case 0: return counting.result.status[candidate];
            case 1: return counting.fates.round[candidate];
            case 2: return counting.result.placeOf(candidate);
            case 3: return counting.fates.reason[candidate];
            case 4: return counting.fates.tieRound[candidate];
            case 5: return counting.result.lastVotes(candidate);
            default: throw new IllegalArgumentException("no such number about a candidate");
        }
    }

    public int elected(int place) throws NoSuchElementException {
        Result result = counted().result;
        if (place < 0 || place >= result.electedCount) {
            throw new NoSuchElementException("no such place");
        }
        return result.order[place];
    }

    public int where(int round, int pile, int what) throws IndexOutOfBoundsException, IllegalArgumentException {
        Counting counting = counted();
        if (!counting.result.hasRound(round)) {
            throw new IndexOutOfBoundsException("no such round");
        }
        if (!isPile(pile)) {
            throw new IndexOutOfBoundsException("no such pile");
        }
        if (what == 0) {
            return counting.log.holder[round][pile];
        }
        if (what == 1) {
            return counting.log.worth[round][pile];
        }
        throw new IllegalArgumentException("no such number about a pile");
    }

    public float share(int round, int candidate) throws IndexOutOfBoundsException, ArithmeticException {
        int units = checkedVotes(counted().result, round, candidate);
        int total = election.papers() * WHOLE_PAPER;
        if (total <= 0) {
            throw new ArithmeticException("no papers");
        }
        return (float) units / (float) total;
    }

    public int preferring(int candidate, int other) throws IndexOutOfBoundsException {
        if (!isCandidate(candidate) || !isCandidate(other)) {
            throw new IndexOutOfBoundsException("no such candidate");
        }
        return election.papersPreferring(candidate, other);
    }

    public int beatsAll() {
        for (int c = 0; c < election.candidates; c++) {
            if (!contains(election.withdrawn, c) && beatsEachOther(c)) {
                return c;
            }
        }
        return NONE;
    }

    public int points(int candidate) throws IndexOutOfBoundsException {
        if (!isCandidate(candidate)) {
            throw new IndexOutOfBoundsException("no such candidate");
        }
        int sum = 0;
        for (int other = 0; other < election.candidates; other++) {
            sum += election.papersPreferring(candidate, other);
        }
        return sum;
    }

    public int declare() {
        declared.copyFrom(counted().result);
        isDeclared = true;
        return declared.electedCount;
    }

    public int recount(int what) throws IllegalArgumentException, IllegalStateException {
        if (what < 0 || what > 2) {
            throw new IllegalArgumentException("no such comparison");
        }
        if (!isDeclared) {
            throw new IllegalStateException("nothing is declared");
        }
        Result result = counted().result;
        if (what == 0) {
            return result.otherStatuses(declared, election.candidates);
        }
        return what == 1 ? result.firstOtherPlace(declared) : result.firstOtherRound(declared, election.candidates);
    }

    public int needed(int candidate) throws IndexOutOfBoundsException {
        if (!isCandidate(candidate)) {
            throw new IndexOutOfBoundsException("no such candidate");
        }
        int status = counted().result.status[candidate];
        if (status == ELECTED) {
            return 0;
        }
        // No papers elect a withdrawn candidate, so that the trials can be spared.
        if (status == WITHDRAWN) {
            return NONE;
        }
        trialElection.copyFrom(election);
        int further = trialElection.addPileFor(candidate);
        for (int papers = 1; papers <= MAX_NEEDED; papers++) {
            trialElection.resize(further, papers);
            trial.run();
            if (trial.result.status[candidate] == ELECTED) {
                return papers;
            }
        }
        return NONE;
    }

    public int undo() throws IllegalStateException {
        if (history.size == 0) {
            throw new IllegalStateException("nothing can be undone");
        }
        history.takeBack(election);
        isCounted = false;
        return history.size;
    }

    public int save() {
        savedElection.copyFrom(election);
        savedDeclared.copyFrom(declared);
        isSavedDeclared = isDeclared;
        isSaved = true;
        return savedElection.piles;
    }

    public int restore() throws IllegalStateException {
        if (!isSaved) {
            throw new IllegalStateException("no snapshot");
        }
        election.copyFrom(savedElection);
        declared.copyFrom(savedDeclared);
        isDeclared = isSavedDeclared;
        isCounted = false;
        history.forgetAll();
        return election.piles;
    }

    public int count(int what) throws IllegalArgumentException {
        switch (what) {
            case 0: return election.candidates;
            case 1: return election.piles;
            case 2: return election.papers();
            case 3: return counted().result.electedCount;
            case 4: return Integer.bitCount(election.withdrawn);
            case 5: return history.size;
            case 6: return reader.length;
            default: break;
        }
        if (what >= 10 && what < 10 + SETTINGS) {
            return election.settings[what - 10];
        }
        if (what >= 20 && what < 20 + election.candidates) {
            return election.lot[what - 20];
        }
        throw new IllegalArgumentException("no such count or place");
    }

    private static boolean contains(int set, int candidate) {
        return ((set >> candidate) & 1) != 0;
    }

    private static int leastSetting(int what) {
        return what == SEATS ? 1 : 0;
    }

    private static int greatestSetting(int what) {
        if (what == SEATS) {
            return MAX_SEATS;
        }
        return what == QUOTA_RULE ? 3 : 1;
    }

    private boolean isCandidate(int candidate) {
        return candidate >= 0 && candidate < election.candidates;
    }

    private boolean isPile(int pile) {
        return pile >= 0 && pile < election.piles;
    }

    private void rememberForUndo() {
        history.remember(election);
        isCounted = false;
    }

    private Counting counted() {
        if (!isCounted) {
            present.run();
            isCounted = true;
        }
        return present;
    }

    private int checkedVotes(Result result, int round, int candidate) {
        if (!result.hasRound(round)) {
            throw new IndexOutOfBoundsException("no such round");
        }
        if (!isCandidate(candidate)) {
            throw new IndexOutOfBoundsException("no such candidate");
        }
        return result.votes[round][candidate];
    }

    private int signOfPile(int pile, int index, int digits) {
        int size = election.sizes[pile];
        if (index < digits) {
            return '0' + (digits == 2 && index == 0 ? size / 10 : size % 10);
        }
        int place = index - digits - 1;
        if (place < 0) {
            return ':';
        }
        return place < election.lengths[pile] ? 'a' + election.rankings[pile][place] : ';';
    }

    private boolean beatsEachOther(int candidate) {
        for (int other = 0; other < election.candidates; other++) {
            if (other != candidate && !contains(election.withdrawn, other)
                    && election.papersPreferring(candidate, other) <= election.papersPreferring(other, candidate)) {
                return false;
            }
        }
        return true;
    }

    /** What an election consists of: all that undo takes back. */
    private static final class Election {
        int candidates;
        final int[] settings;
        int withdrawn;
        final int[] lot;
        int piles;
        final int[] sizes;
        final int[] lengths;
        final int[][] rankings;

        Election() {
            settings = new int[SETTINGS];
            lot = new int[MAX_CANDIDATES];
            sizes = new int[PILE_ROWS];
            lengths = new int[PILE_ROWS];
            rankings = new int[PILE_ROWS][MAX_CANDIDATES];
            startAgain(3, 1);
        }

        void startAgain(int newCandidates, int newSeats) {
            candidates = newCandidates;
            settings[SEATS] = newSeats;
            withdrawn = 0;
            piles = 0;
            for (int place = 0; place < MAX_CANDIDATES; place++) {
                lot[place] = place;
            }
        }

        void copyFrom(Election source) {
            candidates = source.candidates;
            withdrawn = source.withdrawn;
            piles = source.piles;
            System.arraycopy(source.settings, 0, settings, 0, SETTINGS);
            System.arraycopy(source.lot, 0, lot, 0, MAX_CANDIDATES);
            System.arraycopy(source.sizes, 0, sizes, 0, PILE_ROWS);
            System.arraycopy(source.lengths, 0, lengths, 0, PILE_ROWS);
            for (int p = 0; p < PILE_ROWS; p++) {
                System.arraycopy(source.rankings[p], 0, rankings[p], 0, MAX_CANDIDATES);
            }
        }

        void addPile(int size, int[] ranking, int length) {
            if (piles < PILE_ROWS) {
                piles++;
                resize(piles - 1, size);
                rank(piles - 1, ranking, length);
            }
        }

        /** Adds a pile without papers that ranks one candidate alone, and returns its number. */
        int addPileFor(int candidate) {
            if (piles >= PILE_ROWS) {
                return NONE;
            }
            sizes[piles] = 0;
            lengths[piles] = 1;
            rankings[piles][0] = candidate;
            piles++;
            return piles - 1;
        }

        void resize(int pile, int size) {
            if (pile >= 0 && pile < piles) {
                sizes[pile] = size;
            }
        }

        void rank(int pile, int[] ranking, int length) {
            if (pile >= 0 && pile < piles && length <= MAX_CANDIDATES && length <= ranking.length) {
                lengths[pile] = length;
                for (int k = 0; k < length; k++) {
                    rankings[pile][k] = ranking[k];
                }
            }
        }

        void drawLot(int[] order) {
            for (int place = 0; place < candidates && place < order.length; place++) {
                lot[place] = order[place];
            }
        }

        int papers() {
            int sum = 0;
            for (int p = 0; p < piles; p++) {
                sum += sizes[p];
            }
            return sum;
        }

        int papersPreferring(int candidate, int other) {
            int sum = 0;
            for (int p = 0; p < piles; p++) {
                if (prefers(p, candidate, other)) {
                    sum += sizes[p];
                }
            }
            return sum;
        }

        /** The other one is looked for first, so that no paper prefers a candidate to itself. */
        private boolean prefers(int pile, int candidate, int other) {
            for (int k = 0; k < lengths[pile]; k++) {
                if (rankings[pile][k] == other) {
                    return false;
                }
                if (rankings[pile][k] == candidate) {
                    return true;
                }
            }
            return false;
        }
    }

    /** The elections before the calls that can be undone, the latest one last. */
    private static final class History {
        private final Election[] states;
        int size;

        History() {
            states = new Election[MAX_UNDO];
            for (int i = 0; i < MAX_UNDO; i++) {
                states[i] = new Election();
            }
        }

        void forgetAll() {
            size = 0;
        }

        void remember(Election election) {
            if (size >= MAX_UNDO) {
                forgetOldest();
            }
            Election slot = states[size];
            if (slot != null) {
                slot.copyFrom(election);
                size++;
            }
        }

        void takeBack(Election election) {
            if (size <= 0) {
                return;
            }
            size--;
            Election slot = states[size];
            if (slot != null) {
                election.copyFrom(slot);
            }
        }

        private void forgetOldest() {
            Election oldest = states[0];
            for (int i = 1; i < MAX_UNDO; i++) {
                states[i - 1] = states[i];
            }
            states[MAX_UNDO - 1] = oldest;
            size = MAX_UNDO - 1;
        }
    }

    /** The buffer, and the reading of its text. */
    private static final class TextReader {
        private static final int END = -1;

        private final int[] text;
        private final int[] ranking;
        private int rankingLength;
        private int position;
        int length;
        int error;

        TextReader() {
            text = new int[MAX_TEXT];
            ranking = new int[MAX_CANDIDATES];
            error = NONE;
        }

        void addSign(int sign) {
            if (length < MAX_TEXT) {
                text[length] = sign;
                length++;
            }
        }

        void clear() {
            length = 0;
        }

        /** Executes the commands of the text in a draft; returns their number, or NONE at an error. */
        int readInto(Election target) {
            position = 0;
            error = NONE;
            for (int commands = 0; commands <= MAX_TEXT; commands++) {
                if (commands > 0 && position >= length) {
                    return commands;
                }
                if (!readCommand(target)) {
                    return NONE;
                }
            }
            return NONE;
        }

        private boolean readCommand(Election target) {
            switch (next()) {
                case '#': return readSize(target);
                case '~': return readReplacement(target);
                case '!': return readLot(target);
                default: return readAddition(target);
            }
        }

        private boolean readAddition(Election target) {
            if (target.piles >= MAX_PILES) {
                return failAt(position);
            }
            int size = readNumber();
            if (size == NONE || !pass(':') || !readRanking(target.candidates, 1)) {
                return false;
            }
            target.addPile(size, ranking, rankingLength);
            return true;
        }

        private boolean readSize(Election target) {
            position++;
            int pile = readPileNumber(target);
            if (pile == NONE || !pass('=')) {
                return false;
            }
            int size = readNumber();
            if (size == NONE || !pass(';')) {
                return false;
            }
            target.resize(pile, size);
            return true;
        }

        private boolean readReplacement(Election target) {
            position++;
            int pile = readPileNumber(target);
            if (pile == NONE || !pass(':') || !readRanking(target.candidates, 1)) {
                return false;
            }
            target.rank(pile, ranking, rankingLength);
            return true;
        }

        private boolean readLot(Election target) {
            position++;
            if (!readRanking(target.candidates, target.candidates)) {
                return false;
            }
            target.drawLot(ranking);
            return true;
        }

        /** Reads different candidates, at least so many of them, and the ; behind them. */
        private boolean readRanking(int candidates, int least) {
            int seen = 0;
            for (int k = 0; k <= MAX_CANDIDATES; k++) {
                int sign = next();
                if (sign == ';' && k >= least) {
                    position++;
                    rankingLength = k;
                    return true;
                }
                int candidate = sign - 'a';
                if (k == MAX_CANDIDATES || candidate < 0 || candidate >= candidates || contains(seen, candidate)) {
                    return failAt(position);
                }
                seen |= 1 << candidate;
                ranking[k] = candidate;
                position++;
            }
            return false;
        }

        private int readPileNumber(Election target) {
            int start = position;
            int number = readNumber();
            if (number >= target.piles) {
                failAt(start);
                return NONE;
            }
            return number;
        }

        /** A 0 is a whole number: a digit behind it is left to be found wrong by what is read next. */
        private int readNumber() {
            int first = next() - '0';
            if (first < 0 || first > 9) {
                failAt(position);
                return NONE;
            }
            position++;
            int second = next() - '0';
            if (first == 0 || second < 0 || second > 9) {
                return first;
            }
            position++;
            return 10 * first + second;
        }

        private boolean pass(int sign) {
            if (next() != sign) {
                return failAt(position);
            }
            position++;
            return true;
        }

        private int next() {
            return position >= 0 && position < length && position < MAX_TEXT ? text[position] : END;
        }

        private boolean failAt(int index) {
            error = index;
            return false;
        }
    }

    /** The part of a result that can be declared and compared. */
    private static final class Result {
        int rounds;
        int electedCount;
        final int[] order;
        final int[] status;
        final int[][] votes;

        Result() {
            order = new int[MAX_CANDIDATES];
            status = new int[MAX_CANDIDATES];
            votes = new int[MAX_ROUNDS][MAX_CANDIDATES];
        }

        void copyFrom(Result source) {
            rounds = source.rounds;
            electedCount = source.electedCount;
            System.arraycopy(source.order, 0, order, 0, MAX_CANDIDATES);
            System.arraycopy(source.status, 0, status, 0, MAX_CANDIDATES);
            for (int r = 0; r < MAX_ROUNDS; r++) {
                System.arraycopy(source.votes[r], 0, votes[r], 0, MAX_CANDIDATES);
            }
        }

        boolean hasRound(int round) {
            return round >= 0 && round < rounds;
        }

        int placeOf(int candidate) {
            for (int place = 0; place < electedCount; place++) {
                if (order[place] == candidate) {
                    return place;
                }
            }
            return NONE;
        }

        int lastVotes(int candidate) {
            return rounds > 0 ? votes[rounds - 1][candidate] : 0;
        }

        int otherStatuses(Result old, int candidates) {
            int different = 0;
            for (int c = 0; c < candidates; c++) {
                if (status[c] != old.status[c]) {
                    different++;
                }
            }
            return different;
        }

        int firstOtherPlace(Result old) {
            int both = Math.min(electedCount, old.electedCount);
            for (int place = 0; place < both; place++) {
                if (order[place] != old.order[place]) {
                    return place;
                }
            }
            return electedCount == old.electedCount ? NONE : both;
        }

        int firstOtherRound(Result old, int candidates) {
            int both = Math.min(rounds, old.rounds);
            for (int r = 0; r < both; r++) {
                for (int c = 0; c < candidates; c++) {
                    if (votes[r][c] != old.votes[r][c]) {
                        return r;
                    }
                }
            }
            return rounds == old.rounds ? NONE : both;
        }
    }

    /** When and why each candidate was elected or excluded. */
    private static final class Fates {
        final int[] round;
        final int[] reason;
        final int[] tieRound;

        Fates() {
            round = new int[MAX_CANDIDATES];
            reason = new int[MAX_CANDIDATES];
            tieRound = new int[MAX_CANDIDATES];
        }
    }

    /** What is told about each round beside the votes, and where the piles are in it. */
    private static final class RoundLog {
        final int[] quota;
        final int[] exhausted;
        final int[] lost;
        final int[] event;
        final int[] subject;
        final int[] moved;
        final int[] newlyElected;
        final int[][] holder;
        final int[][] worth;

        RoundLog() {
            quota = new int[MAX_ROUNDS];
            exhausted = new int[MAX_ROUNDS];
            lost = new int[MAX_ROUNDS];
            event = new int[MAX_ROUNDS];
            subject = new int[MAX_ROUNDS];
            moved = new int[MAX_ROUNDS];
            newlyElected = new int[MAX_ROUNDS];
            holder = new int[MAX_ROUNDS][PILE_ROWS];
            worth = new int[MAX_ROUNDS][PILE_ROWS];
        }
    }

    /** Looks for the candidate with the most or the fewest votes, and breaks ties. */
    private static final class Chooser {
        private final Election election;
        private final Result result;
        /** How the latest choice was made, told as the reason of an exclusion. */
        int reason;
        /** The round that broke the tie of the latest choice, or NONE. */
        int tieRound;

        Chooser(Election election, Result result) {
            this.election = election;
            this.result = result;
        }

        /** Chooses from a set by the votes of a round; returns NONE if the set is empty. */
        int choose(int set, int round, boolean most) {
            int left = keepExtreme(set, round, most);
            reason = FEWEST_VOTES;
            tieRound = NONE;
            boolean latestFirst = election.settings[TIE_RULE] == 0;
            for (int i = 0; i < round && Integer.bitCount(left) > 1; i++) {
                int earlier = latestFirst ? round - 1 - i : i;
                int kept = keepExtreme(left, earlier, most);
                if (kept != left) {
                    left = kept;
                    reason = BROKEN_BY_ROUND;
                    tieRound = earlier;
                }
            }
            if (Integer.bitCount(left) > 1) {
                reason = BROKEN_BY_LOT;
                tieRound = NONE;
            }
            return firstByLot(left, most);
        }

        private int keepExtreme(int set, int round, boolean most) {
            int kept = 0;
            int best = 0;
            for (int c = 0; c < election.candidates; c++) {
                int bit = 1 << c;
                int units = result.votes[round][c];
                if ((set & bit) != 0) {
                    if (kept == 0 || (most ? units > best : units < best)) {
                        kept = bit;
                        best = units;
                    } else if (units == best) {
                        kept |= bit;
                    }
                }
            }
            return kept;
        }

        /** Who stands first in the lot gains where the most is looked for, so the fewest is looked for from behind. */
        private int firstByLot(int set, boolean most) {
            for (int i = 0; i < election.candidates; i++) {
                int place = most ? i : election.candidates - 1 - i;
                int candidate = election.lot[place];
                if ((set & (1 << candidate)) != 0) {
                    return candidate;
                }
            }
            return NONE;
        }
    }

    /** The counting of one election, round by round. */
    private static final class Counting {
        private static final int ALL_PARCELS = -2;

        private final Election election;
        private final Chooser chooser;
        final Result result;
        final Fates fates;
        final RoundLog log;
        /** By candidate: the votes as they are now. */
        private final int[] votes;
        /** By pile: the candidate with whom it is, its place in the ranking, the round it came in, its worth. */
        private final int[] holder;
        private final int[] place;
        private final int[] came;
        private final int[] worth;
        private int hopeful;
        /** The elected candidates whose surplus has not been transferred. */
        private int untransferred;
        private int papers;
        private int quota;
        private int exhausted;
        private int lost;

        Counting(Election election) {
            this.election = election;
            result = new Result();
            chooser = new Chooser(election, result);
            fates = new Fates();
            log = new RoundLog();
            votes = new int[MAX_CANDIDATES];
            holder = new int[PILE_ROWS];
            place = new int[PILE_ROWS];
            came = new int[PILE_ROWS];
            worth = new int[PILE_ROWS];
        }

        void run() {
            startCandidates();
            startPiles();
            boolean goesOn = true;
            for (int round = 0; goesOn && round < MAX_ROUNDS; round++) {
                result.rounds = round + 1;
                quota = findQuota();
                logRound(round);
                goesOn = playRound(round);
            }
        }

        private void startCandidates() {
            hopeful = 0;
            untransferred = 0;
            result.electedCount = 0;
            for (int c = 0; c < MAX_CANDIDATES; c++) {
                boolean stands = c < election.candidates && !contains(election.withdrawn, c);
                hopeful |= stands ? 1 << c : 0;
                result.status[c] = stands ? HOPEFUL : WITHDRAWN;
                votes[c] = 0;
                fates.round[c] = NONE;
                fates.reason[c] = NO_REASON;
                fates.tieRound[c] = NONE;
            }
        }

        private void startPiles() {
            papers = election.papers();
            exhausted = 0;
            lost = 0;
            for (int p = 0; p < election.piles; p++) {
                place[p] = -1;
                worth[p] = WHOLE_PAPER;
                sendOn(p, BEGINNING);
            }
        }

        private int findQuota() {
            int seats = Math.max(1, election.settings[SEATS]);
            int total = papers * WHOLE_PAPER;
            switch (election.settings[QUOTA_RULE]) {
                case 0: return (papers / (seats + 1) + 1) * WHOLE_PAPER;
                case 1: return (papers + seats - 1) / seats * WHOLE_PAPER;
                case 2: return total / (seats + 1) + 1;
                default: return (total - exhausted - lost) / (seats + 1) + 1;
            }
        }

        private void logRound(int round) {
            log.quota[round] = quota;
            log.exhausted[round] = exhausted;
            log.lost[round] = lost;
            log.event[round] = LAST_ROUND;
            log.subject[round] = NONE;
            log.moved[round] = 0;
            log.newlyElected[round] = 0;
            System.arraycopy(votes, 0, result.votes[round], 0, MAX_CANDIDATES);
            System.arraycopy(holder, 0, log.holder[round], 0, PILE_ROWS);
            System.arraycopy(worth, 0, log.worth[round], 0, PILE_ROWS);
        }

        /** Answers whether another round follows. */
        private boolean playRound(int round) {
            int seats = election.settings[SEATS];
            electWithQuota(round, seats - result.electedCount);
            int free = seats - result.electedCount;
            if (free <= 0) {
                return false;
            }
            if (Integer.bitCount(hopeful) <= free) {
                electAllHopeful(round);
                return false;
            }
            int rich = chooser.choose(withMoreThanQuota(), round, true);
            if (rich != NONE) {
                transferSurplus(rich, round);
            } else {
                excludeWeakest(round);
            }
            return true;
        }

        private void electWithQuota(int round, int free) {
            for (int seat = 0; seat < free; seat++) {
                int best = chooser.choose(hopeful, round, true);
                if (best == NONE || votes[best] < quota) {
                    return;
                }
                elect(best, round, HAD_QUOTA);
            }
        }

        private void electAllHopeful(int round) {
            for (int k = 0; k < MAX_CANDIDATES && hopeful != 0; k++) {
                int best = chooser.choose(hopeful, round, true);
                if (best != NONE) {
                    elect(best, round, SEATS_LEFT);
                }
            }
        }

        private void elect(int candidate, int round, int reason) {
            if (result.electedCount < MAX_CANDIDATES) {
                result.order[result.electedCount] = candidate;
                result.electedCount++;
            }
            result.status[candidate] = ELECTED;
            fates.round[candidate] = round;
            fates.reason[candidate] = reason;
            log.newlyElected[round] |= 1 << candidate;
            hopeful &= ~(1 << candidate);
            untransferred |= 1 << candidate;
        }

        private int withMoreThanQuota() {
            int set = 0;
            for (int c = 0; c < MAX_CANDIDATES; c++) {
                if (contains(untransferred, c) && votes[c] > quota) {
                    set |= 1 << c;
                }
            }
            return set;
        }

        private void transferSurplus(int candidate, int round) {
            int surplus = votes[candidate] - quota;
            int parcel = election.settings[TRANSFER_RULE] == 0 ? ALL_PARCELS : lastParcel(candidate);
            int sum = worthOfParcel(candidate, parcel);
            int moved = 0;
            for (int p = 0; p < election.piles; p++) {
                if (isInParcel(p, candidate, parcel)) {
                    worth[p] = reducedWorth(worth[p], surplus, sum);
                    moved += sendOn(p, round);
                }
            }
            lost += surplus - moved;
            votes[candidate] = quota;
            untransferred &= ~(1 << candidate);
            logEvent(round, SURPLUS_TRANSFERRED, candidate, moved);
        }

        /** The round in which the last parcel came; piles with papers alone decide which round that is. */
        private int lastParcel(int candidate) {
            int latest = BEGINNING;
            for (int p = 0; p < election.piles; p++) {
                if (holder[p] == candidate && election.sizes[p] > 0 && came[p] > latest) {
                    latest = came[p];
                }
            }
            return latest;
        }

        private boolean isInParcel(int pile, int candidate, int parcel) {
            return holder[pile] == candidate && (parcel == ALL_PARCELS || came[pile] == parcel);
        }

        private int worthOfParcel(int candidate, int parcel) {
            int sum = 0;
            for (int p = 0; p < election.piles; p++) {
                if (isInParcel(p, candidate, parcel)) {
                    sum += election.sizes[p] * worth[p];
                }
            }
            return sum;
        }

        private static int reducedWorth(int old, int surplus, int sum) {
            if (sum <= 0) {
                return 0;
            }
            // The product passes the range of int.
            return (int) Math.min((long) old, (long) old * surplus / sum);
        }

        private void excludeWeakest(int round) {
            int weakest = chooser.choose(hopeful, round, false);
            if (weakest == NONE) {
                return;
            }
            result.status[weakest] = EXCLUDED;
            fates.round[weakest] = round;
            fates.reason[weakest] = chooser.reason;
            fates.tieRound[weakest] = chooser.tieRound;
            hopeful &= ~(1 << weakest);
            votes[weakest] = 0;
            int moved = 0;
            for (int p = 0; p < election.piles; p++) {
                if (holder[p] == weakest) {
                    moved += sendOn(p, round);
                }
            }
            logEvent(round, CANDIDATE_EXCLUDED, weakest, moved);
        }

        private void logEvent(int round, int event, int subject, int moved) {
            log.event[round] = event;
            log.subject[round] = subject;
            log.moved[round] = moved;
        }

        /** Lets a pile go on to the next hopeful candidate; returns the units that it takes along. */
        private int sendOn(int pile, int round) {
            int units = election.sizes[pile] * worth[pile];
            int length = election.lengths[pile];
            for (int k = place[pile] + 1; k < length; k++) {
                int candidate = election.rankings[pile][k];
                if (contains(hopeful, candidate)) {
                    holder[pile] = candidate;
                    place[pile] = k;
                    came[pile] = round;
                    votes[candidate] += units;
                    return units;
                }
            }
            holder[pile] = NONE;
            exhausted += units;
            return units;
        }
    }
}
