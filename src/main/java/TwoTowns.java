import java.util.Arrays;
import java.util.NoSuchElementException;

/** Two towns, the inspectors' game on them, and what can be said of both. */
public final class TwoTowns {
    public static final int NONE = -1;

    private static final int OTHERS = -2;
    private static final int MOST_FOLK = 4;
    private static final int MOST_ROUNDS = 4;
    private static final int NEVER = 1000;

    private static final int TAPE_SIZE = 1000;
    private static final int LONGEST_WORD = 8;
    private static final int LONGEST_NUMBER = 4;

    private static final int END = 0;
    private static final int WORD = 1;
    private static final int NUMBER = 2;
    private static final int SEMICOLON = 3;
    private static final int STRANGE = 4;

    private static final int MISPLACED = 1;
    private static final int UNKNOWN = 2;
    private static final int REPEATED = 3;
    private static final int NOT_AS_TOLD = 4;
    private static final int TOO_MANY = 5;

    // A reserved word's number is its place in this text; the numbers below follow it.
    private static final String RESERVED =
            "folk of baker widow near owes same not and or some all two x y z u ";
    private static final int FOLK = 0;
    private static final int OF = 1;
    private static final int BAKER = 2;
    private static final int NEAR = 4;
    private static final int OWES = 5;
    private static final int SAME = 6;
    private static final int NOT = 7;
    private static final int AND = 8;
    private static final int OR = 9;
    private static final int SOME = 10;
    private static final int ALL = 11;
    private static final int TWO = 12;
    private static final int X = 13;
    private static final int U = 16;

    private static final int LONGEST_CLAIM = 60;
    private static final int DEEPEST_CLAIM = 8;

    private static final int LARGEST_MODEL = 3;
    private static final int MODELS_OF_THREE = 64;
    private static final int MODELS_OF_FEWER = 11;
    // Among those of fewer than three, as bits: the empty one first, then two of one, then eight of two.
    private static final int MODEL_OF_NOBODY = 1;
    private static final int MODELS_OF_ONE = 6;
    private static final int MODELS_OF_TWO = 2040;
    private static final int ALL_OF_FEWER = 2047;
    private static final int MOST_REPORTS = 4;

    private static final int BACK_STEPS = 16;
    private static final int MARKS = 4;

    // A change of a town is told by one number: paints below LINKS, links from there on.
    private static final int LINKS = 8;
    private static final int CHANGES = 40;
    // What can be undone: a change (64 apart for the two towns), a pair, a round with nobody left.
    private static final int SECOND_TOWN = 64;
    private static final int PAIRED = 128;
    private static final int NOBODY_LEFT = 132;

    // A position is a number of four digits to the base 5: the partner of each of the first town, plus 1.
    private static final int POSITIONS = 625;
    private static final int[] DIGITS = {1, 5, 25, 125};
    private static final int HAND_POSITIONS = 185;
    private static final int MOST_HANDS = 3;

    private static final int BOTH_SIDES = 3;
    private static final int MOST_ELDERS = 12;
    private static final int LARGEST_SEED = 9999;
    private static final int MOST_PLAYS = 99;
    private static final int MOST_CHANGES = 2;

    private final Tape tape = new Tape();
    private final State now = new State();
    private final State draft = new State();
    private final State[] marks = {new State(), new State(), new State(), new State()};
    private final boolean[] laid = new boolean[MARKS];
    private final int[] done = new int[BACK_STEPS];
    private int doneMany = 0;
    private Claim told = new Claim();
    private Claim spare = new Claim();
    private boolean hasClaim = false;
    private final TownsReader townsReader = new TownsReader();
    private final ClaimReader claimReader = new ClaimReader();
    private final Board board = new Board();
    private final Hands handGame = new Hands();
    private final Colours tints = new Colours();
    private final Chance chance = new Chance();
    private final Town trial = new Town();

    public TwoTowns() {
    }

    // ---- what is told ----

    public int feed(long a, long b, long c) {
        tape.takeBytes(a);
        tape.takeBytes(b);
        tape.takeBytes(c);
        return tape.size;
    }

    public int towns() {
        int fault = townsReader.read(tape, draft);
        tape.wipe();
        if (fault == 0) {
            now.become(draft);
            hasClaim = false;
            doneMany = 0;
            for (int i = 0; i < MARKS; i++) {
                laid[i] = false;
            }
        }
        return fault;
    }

    public int claim() {
        int fault = claimReader.read(tape, spare);
        tape.wipe();
        if (fault == 0) {
            Claim old = told;
            told = spare;
            spare = old;
            hasClaim = true;
        }
        return fault;
    }

    public int folk(int town, int folk, int what) {
        if (!isOne(town, folk)) {
            return OTHERS;
        }
        Town home = now.town(town);
        switch (what) {
            case 0: return home.bakers >> folk & 1;
            case 1: return home.widows >> folk & 1;
            case 2: return home.nearTo(folk);
            case 3: return home.owedBy(folk);
            case 4: return home.owingTo(folk);
            case 5: return now.partnerOf(town, folk);
            default: return OTHERS;
        }
    }

    public int count(int what) {
        switch (what) {
            case 0: return now.first.folk;
            case 1: return now.second.folk;
            case 2: return now.pairsMany();
            case 3: return isFoundOut() ? 1 : 0;
            case 4: return now.first.bakers;
            case 5: return now.second.bakers;
            case 6: return now.first.widows;
            case 7: return now.second.widows;
            case 8: return hasClaim ? 1 : 0;
            case 9: return now.reports;
            case 10: return doneMany;
            case 11: return tape.size;
            default: return NONE;
        }
    }

    // ---- the game by hand ----

    public int point(int town, int folk, int back) {
        if (isFoundOut() || !isOne(town, folk) || !board.isFree(town, folk)) {
            return NONE;
        }
        int other = 1 - town;
        if (back == NONE) {
            if (board.freeMany(other) > 0) {
                return NONE;
            }
            now.nobodyLeft = true;
            note(NOBODY_LEFT);
            return 0;
        }
        if (!isOne(other, back) || !board.isFree(other, back)) {
            return NONE;
        }
        int one = town == 0 ? folk : back;
        int partner = town == 0 ? back : folk;
        boolean fits = board.fits(one, partner);
        now.pair(one, partner);
        note(PAIRED + one);
        return fits ? 1 : 0;
    }

    public boolean paint(int town, int folk, int what) {
        if (!isOne(town, folk) || what < 0 || what > 1) {
            return false;
        }
        makeChange(town, Town.paintNumber(what, folk));
        return true;
    }

    public boolean link(int town, int folk, int other, int what) {
        if (!isOne(town, folk) || !isOne(town, other) || folk == other || what < 0 || what > 1) {
            return false;
        }
        makeChange(town, Town.linkNumber(what, folk, other));
        return true;
    }

    public boolean undo() {
        if (doneMany <= 0 || doneMany > done.length) {
            return false;
        }
        doneMany--;
        int last = done[doneMany];
        if (last >= NOBODY_LEFT) {
            now.nobodyLeft = false;
        } else if (last >= PAIRED) {
            now.pair(last - PAIRED, NONE);
        } else {
            now.town(last / SECOND_TOWN).change(last % SECOND_TOWN);
        }
        return true;
    }

    public boolean mark(int mark, boolean back) {
        if (mark < 0 || mark >= MARKS) {
            return false;
        }
        if (back && !laid[mark]) {
            return false;
        }
        if (back) {
            now.become(marks[mark]);
            doneMany = 0;
        } else {
            marks[mark].become(now);
            laid[mark] = true;
        }
        return true;
    }

    // ---- how soon it is found out ----

    public int left() {
        if (isFoundOut()) {
            return 0;
        }
        return orNone(board.lasting(BOTH_SIDES));
    }

    public int hint() {
        if (isFoundOut()) {
            return NONE;
        }
        return board.soonestPointing();
    }

    public int reply(int town, int folk) {
        if (isFoundOut() || !isOne(town, folk) || !board.isFree(town, folk)) {
            return NONE;
        }
        return board.longestReply(town, folk);
    }

    public int rounds() {
        board.lay(now.first, now.second);
        return orNone(board.lasting(BOTH_SIDES));
    }

    public int sided(int town) {
        if (!isTown(town)) {
            return NONE;
        }
        board.lay(now.first, now.second);
        return orNone(board.lasting(1 << town));
    }

    public int keeps(int town, int folk, int rounds) {
        if (!isOne(town, folk) || rounds < 0 || rounds > MOST_ROUNDS) {
            return NONE;
        }
        board.lay(now.first, now.second);
        return board.keepers(town, folk, rounds);
    }

    public int hands(int many) {
        if (many < 1 || many > MOST_HANDS) {
            return NONE;
        }
        board.lay(now.first, now.second);
        return orNone(handGame.lasting(board, many));
    }

    public int mend(int rounds) {
        if (rounds < 1 || rounds > MOST_ROUNDS) {
            return NONE;
        }
        trial.become(now.first);
        board.lay(trial, now.second);
        if (board.runsOut(rounds)) {
            return NONE;
        }
        for (int changes = 0; changes <= MOST_CHANGES; changes++) {
            if (isMended(changes, 0, rounds)) {
                return changes;
            }
        }
        return NONE;
    }

    public int elders(int many, int other) {
        if (many < 0 || many > MOST_ELDERS || other < 0 || other > MOST_ELDERS || many == other) {
            return NONE;
        }
        // Rows of unlike length last r rounds just if both are of 2^r - 1 at least.
        int fewer = Math.min(many, other);
        int rounds = 1;
        while (rounds < MOST_ELDERS && (1 << rounds) - 1 <= fewer) {
            rounds++;
        }
        return rounds;
    }

    // ---- how the towns are made ----

    public int colours(int what) {
        if (what < 0 || what > 2) {
            return NONE;
        }
        tints.refine(now.first, now.second);
        if (what == 0) {
            return tints.anew;
        }
        return what == 1 ? tints.many : tints.unlike();
    }

    public int ways() {
        board.lay(now.first, now.second);
        return board.pairings();
    }

    public int selves(int town) {
        if (!isTown(town)) {
            return NONE;
        }
        board.lay(now.town(town), now.town(town));
        return board.pairings();
    }

    public int orbit(int town, int folk) {
        if (!isOne(town, folk)) {
            return NONE;
        }
        board.lay(now.town(town), now.town(town));
        return board.goesTo(folk);
    }

    public int far(int town, int folk, int other) {
        if (!isOne(town, folk) || !isOne(town, other)) {
            return NONE;
        }
        return now.town(town).steps(folk, other);
    }

    public int groups(int town) {
        return isTown(town) ? now.town(town).groupsMany() : NONE;
    }

    public int loner(int town) {
        return isTown(town) ? now.town(town).lonely() : NONE;
    }

    public int most(int town) {
        return isTown(town) ? now.town(town).nearest() : NONE;
    }

    // ---- the claim and the lost town ----

    public int measure(int what) {
        if (!hasClaim) {
            return NONE;
        }
        switch (what) {
            case 0: return told.depth;
            case 1: return Integer.bitCount(told.names);
            case 2: return told.length;
            default: return NONE;
        }
    }

    public int so(int town) {
        if (!hasClaim || !isTown(town)) {
            return NONE;
        }
        return told.isSo(now.town(town)) ? 1 : 0;
    }

    public boolean parts() {
        return hasClaim && told.isSo(now.first) != told.isSo(now.second);
    }

    public int models() {
        if (!hasClaim) {
            return NONE;
        }
        told.lookAtModels(trial);
        return Long.bitCount(told.ofThree) + Integer.bitCount(told.ofFewer);
    }

    public boolean report(boolean so) {
        if (!hasClaim || now.reports >= MOST_REPORTS) {
            return false;
        }
        told.lookAtModels(trial);
        now.lostOfThree &= so ? told.ofThree : ~told.ofThree;
        now.lostOfFewer &= so ? told.ofFewer : ~told.ofFewer;
        now.reports++;
        return true;
    }

    public int lost(int what) {
        switch (what) {
            case 0: return Long.bitCount(now.lostOfThree) + Integer.bitCount(now.lostOfFewer);
            case 1: return now.fewestLost();
            case 2: return now.mostLost();
            default: return NONE;
        }
    }

    public int sure() {
        if (!hasClaim || now.fewestLost() == NONE) {
            return NONE;
        }
        told.lookAtModels(trial);
        boolean somewhere = (now.lostOfThree & told.ofThree) != 0 || (now.lostOfFewer & told.ofFewer) != 0;
        boolean elsewhere = (now.lostOfThree & ~told.ofThree) != 0 || (now.lostOfFewer & ~told.ofFewer) != 0;
        if (somewhere && elsewhere) {
            return NONE;
        }
        return somewhere ? 1 : 0;
    }

    // ---- showing, and plays by draws ----

    public int rests(int both, int loses, int gets, int what) throws NoSuchElementException {
        if (!isDigit(both) || !isDigit(loses) || !isDigit(gets) || what < NONE) {
            throw new NoSuchElementException();
        }
        int seen = 0;
        for (int choices = 0; choices < 4; choices++) {
            if (isAtRest(choices, both, loses, gets)) {
                if (seen == what) {
                    return choices;
                }
                seen++;
            }
        }
        if (what != NONE) {
            throw new NoSuchElementException();
        }
        return seen;
    }

    public int plays(int seed, int many, int what) {
        if (seed < 0 || seed > LARGEST_SEED || many < 1 || many > MOST_PLAYS || what < 0 || what > 1) {
            return NONE;
        }
        if (isFoundOut()) {
            return what == 0 ? many : 0;
        }
        chance.begin(seed);
        for (int i = 0; i < many; i++) {
            board.load(now);
            chance.playOn(board);
        }
        return what == 0 ? chance.foundOut : chance.played;
    }

    // ---- helpers of the face ----

    private boolean isTown(int town) {
        return town == 0 || town == 1;
    }

    private boolean isOne(int town, int who) {
        return isTown(town) && now.town(town).has(who);
    }

    /** Lays the present position on the board, too. */
    private boolean isFoundOut() {
        board.load(now);
        return now.nobodyLeft || !board.alike;
    }

    private int orNone(int lasting) {
        return lasting >= NEVER ? NONE : lasting;
    }

    private void makeChange(int town, int change) {
        now.town(town).change(change);
        note(town * SECOND_TOWN + change);
    }

    private void note(int what) {
        if (doneMany >= BACK_STEPS) {
            System.arraycopy(done, 1, done, 0, BACK_STEPS - 1);
            doneMany = BACK_STEPS - 1;
        }
        done[doneMany] = what;
        doneMany++;
    }

    /** Whether some so many changes of the trial town, from a number on, do; the trial is then as before. */
    private boolean isMended(int changes, int from, int rounds) {
        if (changes <= 0) {
            return board.lastsFor(rounds);
        }
        boolean mended = false;
        for (int change = from; change < CHANGES && !mended; change++) {
            if (trial.mayChange(change)) {
                trial.change(change);
                mended = isMended(changes - 1, change + 1, rounds);
                trial.change(change);
            }
        }
        return mended;
    }

    private static boolean isDigit(int number) {
        return number >= 0 && number <= 9;
    }

    private static boolean isAtRest(int choices, int both, int loses, int gets) {
        boolean firstPoints = choices / 2 == 1;
        boolean otherPoints = choices % 2 == 1;
        return isContent(firstPoints, otherPoints, both, loses, gets)
                && isContent(otherPoints, firstPoints, both, loses, gets);
    }

    private static boolean isContent(boolean points, boolean otherPoints, int both, int loses, int gets) {
        int byPointing = otherPoints ? both : -loses;
        int byWaiting = otherPoints ? gets : 0;
        return points ? byPointing >= byWaiting : byWaiting >= byPointing;
    }

    // ---- classes inside ----

    /** The signs fed, and the tokens they make, one after the other. */
    private static final class Tape {
        private final char[] signs = new char[TAPE_SIZE];
        private int size = 0;
        private int place = 0;
        private int end = 0;
        private int kind = END;
        private int word = NONE;
        private int number = NONE;
        private int fault = 0;

        void takeBytes(long bytes) {
            for (int shift = 56; shift >= 0; shift -= 8) {
                int sign = (int) (bytes >>> shift & 255);
                boolean isSign = sign == 10 || sign >= 32 && sign <= 126;
                if (isSign && size < TAPE_SIZE) {
                    signs[size] = (char) sign;
                    size++;
                }
            }
        }

        void wipe() {
            size = 0;
        }

        void rewind() {
            place = 0;
            end = 0;
            fault = 0;
        }

        void next() {
            place = end;
            while (place < size && isBlank(signs[place])) {
                place++;
            }
            end = place;
            word = NONE;
            number = NONE;
            if (place >= size) {
                kind = END;
            } else if (isLetter(signs[place])) {
                readWord();
            } else if (isFigure(signs[place])) {
                readNumber();
            } else {
                kind = signs[place] == ';' ? SEMICOLON : STRANGE;
                end = place + 1;
            }
        }

        private void readWord() {
            while (end < size && isLetter(signs[end])) {
                end++;
            }
            kind = end - place <= LONGEST_WORD ? WORD : STRANGE;
            if (kind == WORD) {
                word = reservedWord();
            }
        }

        private void readNumber() {
            while (end < size && isFigure(signs[end])) {
                end++;
            }
            kind = end - place <= LONGEST_NUMBER ? NUMBER : STRANGE;
            if (kind == NUMBER) {
                number = 0;
                for (int i = place; i < end; i++) {
                    number = number * 10 + (signs[i] - '0');
                }
            }
        }

        /** The number of the reserved word that the token is. */
        private int reservedWord() {
            int found = 0;
            int matched = 0;
            for (int i = 0; i < RESERVED.length(); i++) {
                char sign = RESERVED.charAt(i);
                if (sign == ' ') {
                    if (matched == end - place) {
                        return found;
                    }
                    found++;
                    matched = 0;
                } else if (matched != NONE) {
                    boolean same = place + matched < end && signs[place + matched] == sign;
                    matched = same ? matched + 1 : NONE;
                }
            }
            return NONE;
        }

        boolean repeats(int from, int to) {
            if (to - from != end - place || from < 0 || to > size) {
                return false;
            }
            for (int i = from; i < to; i++) {
                if (signs[i] != signs[place + i - from]) {
                    return false;
                }
            }
            return true;
        }

        boolean isName() {
            return kind == WORD && word == NONE;
        }

        /** Always false, so that a reader can answer by it. */
        boolean wrong(int faultKind) {
            fault = faultKind + 16 * place;
            return false;
        }

        private static boolean isBlank(char sign) {
            return sign == 10 || sign == ' ';
        }

        private static boolean isLetter(char sign) {
            return sign >= 'a' && sign <= 'z';
        }

        private static boolean isFigure(char sign) {
            return sign >= '0' && sign <= '9';
        }
    }

    /** Reads TOWNS. */
    private static final class TownsReader {
        private final int[] nameFrom = new int[2 * MOST_FOLK];
        private final int[] nameTo = new int[2 * MOST_FOLK];

        /** 0 or the fault; what was read into is of use without a fault alone. */
        int read(Tape tape, State into) {
            into.empty();
            tape.rewind();
            for (int i = 0; i < TAPE_SIZE; i++) {
                tape.next();
                if (tape.kind == END) {
                    return 0;
                }
                if (!readStatement(tape, into)) {
                    return tape.fault;
                }
            }
            return 0;
        }

        private boolean readStatement(Tape tape, State into) {
            int verb = tape.word;
            boolean read;
            if (verb == FOLK) {
                read = readFolk(tape, into);
            } else if (verb == NEAR || verb == OWES) {
                read = readLink(tape, into, verb - NEAR);
            } else if (verb >= BAKER && verb < NEAR) {
                read = readPaint(tape, into, verb - BAKER);
            } else {
                return tape.wrong(MISPLACED);
            }
            if (!read) {
                return false;
            }
            tape.next();
            return tape.kind == SEMICOLON || tape.wrong(MISPLACED);
        }

        private boolean readFolk(Tape tape, State into) {
            tape.next();
            if (!tape.isName()) {
                return tape.wrong(MISPLACED);
            }
            if (whoIsNamed(tape, into) != NONE) {
                return tape.wrong(REPEATED);
            }
            int from = tape.place;
            int to = tape.end;
            tape.next();
            if (tape.word != OF) {
                return tape.wrong(MISPLACED);
            }
            tape.next();
            if (tape.kind != NUMBER) {
                return tape.wrong(MISPLACED);
            }
            if (tape.number < 1 || tape.number > 2) {
                return tape.wrong(NOT_AS_TOLD);
            }
            return settle(tape, into, from, to);
        }

        private boolean settle(Tape tape, State into, int from, int to) {
            int town = tape.number == 1 ? 0 : 1;
            Town home = into.town(town);
            if (home.folk < 0 || home.folk >= MOST_FOLK) {
                return tape.wrong(TOO_MANY);
            }
            nameFrom[town * MOST_FOLK + home.folk] = from;
            nameTo[town * MOST_FOLK + home.folk] = to;
            home.folk++;
            return true;
        }

        private boolean readPaint(Tape tape, State into, int what) {
            int one = readOne(tape, into);
            if (one == NONE) {
                return false;
            }
            Town home = into.town(one / MOST_FOLK);
            int change = Town.paintNumber(what, one % MOST_FOLK);
            return makeOnce(tape, home, change);
        }

        private boolean readLink(Tape tape, State into, int what) {
            int one = readOne(tape, into);
            if (one == NONE) {
                return false;
            }
            int other = readOne(tape, into);
            if (other == NONE) {
                return false;
            }
            if (one == other || one / MOST_FOLK != other / MOST_FOLK) {
                return tape.wrong(REPEATED);
            }
            Town home = into.town(one / MOST_FOLK);
            int change = Town.linkNumber(what, one % MOST_FOLK, other % MOST_FOLK);
            return makeOnce(tape, home, change);
        }

        private boolean makeOnce(Tape tape, Town home, int change) {
            if (home.isChanged(change)) {
                return tape.wrong(REPEATED);
            }
            home.change(change);
            return true;
        }

        private int readOne(Tape tape, State into) {
            tape.next();
            if (!tape.isName()) {
                tape.wrong(MISPLACED);
                return NONE;
            }
            int who = whoIsNamed(tape, into);
            if (who == NONE) {
                tape.wrong(UNKNOWN);
            }
            return who;
        }

        /** 4 * the town + who, or NONE. */
        private int whoIsNamed(Tape tape, State into) {
            for (int i = 0; i < 2 * MOST_FOLK; i++) {
                boolean isTold = into.town(i / MOST_FOLK).has(i % MOST_FOLK);
                if (isTold && tape.repeats(nameFrom[i], nameTo[i])) {
                    return i;
                }
            }
            return NONE;
        }
    }

    /** Reads a CLAIM. */
    private static final class ClaimReader {
        /** 0 or the fault; what was read into is of use without a fault alone. */
        int read(Tape tape, Claim into) {
            into.empty();
            tape.rewind();
            if (!readSentence(tape, into, 0, 0, 0)) {
                return tape.fault;
            }
            tape.next();
            if (tape.kind != END) {
                tape.wrong(MISPLACED);
            }
            return tape.fault;
        }

        /** within: how many others it lies in; quantified: how many some, all, two; bound: their V, as bits. */
        private boolean readSentence(Tape tape, Claim into, int within, int quantified, int bound) {
            tape.next();
            int verb = tape.word;
            if (verb < BAKER || verb >= X) {
                return tape.wrong(MISPLACED);
            }
            if (within >= DEEPEST_CLAIM || into.length >= LONGEST_CLAIM) {
                return tape.wrong(TOO_MANY);
            }
            int index = into.add(verb);
            if (verb <= SAME) {
                return readAtom(tape, into, index, bound);
            }
            if (verb == NOT) {
                return readSentence(tape, into, within + 1, quantified, bound);
            }
            if (verb <= OR) {
                if (!readSentence(tape, into, within + 1, quantified, bound)) {
                    return false;
                }
                into.second[index] = into.length;
                return readSentence(tape, into, within + 1, quantified, bound);
            }
            tape.next();
            if (tape.word < X) {
                return tape.wrong(MISPLACED);
            }
            int name = tape.word - X;
            into.bind(index, name, quantified + 1);
            return readSentence(tape, into, within + 1, quantified + 1, bound | 1 << name);
        }

        private boolean readAtom(Tape tape, Claim into, int index, int bound) {
            int names = into.verb[index] < NEAR ? 1 : 2;
            for (int i = 0; i < names; i++) {
                tape.next();
                if (tape.word < X) {
                    return tape.wrong(MISPLACED);
                }
                int name = tape.word - X;
                if ((bound >> name & 1) == 0) {
                    return tape.wrong(UNKNOWN);
                }
                if (i == 0) {
                    into.one[index] = name;
                } else {
                    into.other[index] = name;
                }
            }
            return true;
        }
    }

    /**
     * A sentence, its parts in the order in which they are read, so that a part lies ahead of all within it.
     * Of each part it is kept for all 256 choices of x, y, z, u at once whether it is so: a choice is the bit
     * x + 4 * y + 16 * z of the u-th long.
     */
    private static final class Claim {
        private static final long EACH_X = 0x1111111111111111L;
        private static final long EACH_Y = 0x000F000F000F000FL;
        private static final long EACH_Z = 0x000000000000FFFFL;

        private final int[] verb = new int[LONGEST_CLAIM];
        private final int[] one = new int[LONGEST_CLAIM];
        private final int[] other = new int[LONGEST_CLAIM];
        private final int[] second = new int[LONGEST_CLAIM];
        private final long[] truth = new long[LONGEST_CLAIM * MOST_FOLK];
        private int length = 0;
        private int depth = 0;
        private int names = 0;
        private boolean looked = false;
        private long ofThree = 0;
        private int ofFewer = 0;

        void empty() {
            length = 0;
            depth = 0;
            names = 0;
            looked = false;
        }

        /** The place of the new part; the reader has looked that there is one left. */
        int add(int newVerb) {
            if (length < 0 || length >= LONGEST_CLAIM) {
                return 0;
            }
            verb[length] = newVerb;
            one[length] = 0;
            other[length] = 0;
            second[length] = 0;
            length++;
            return length - 1;
        }

        void bind(int index, int name, int nested) {
            one[index] = name;
            names |= 1 << name;
            depth = Math.max(depth, nested);
        }

        boolean isSo(Town town) {
            // Without u all four longs are the same.
            boolean hasU = (names >> U - X & 1) == 1;
            int layers = hasU ? Math.max(1, town.folk) : 1;
            for (int part = length - 1; part >= 0; part--) {
                for (int layer = 0; layer < layers; layer++) {
                    truth[part * MOST_FOLK + layer] = truthOf(part, layer, town);
                }
            }
            return (truth[0] & 1) == 1;
        }

        private long truthOf(int part, int layer, Town town) {
            switch (verb[part]) {
                case NOT: return ~known(part + 1, layer);
                case AND: return known(part + 1, layer) & known(second[part], layer);
                case OR: return known(part + 1, layer) | known(second[part], layer);
                case SOME:
                case ALL:
                case TWO: return truthOfMany(part, layer, town);
                case NEAR:
                case OWES:
                case SAME: return truthOfTwo(part, layer, town);
                default: return where(one[part], verb[part] == BAKER ? town.bakers : town.widows, layer);
            }
        }

        private long known(int part, int layer) {
            int index = part * MOST_FOLK + layer;
            return index >= 0 && index < truth.length ? truth[index] : 0;
        }

        private long truthOfMany(int part, int layer, Town town) {
            long once = 0;
            long twice = 0;
            long always = -1;
            for (int who = 0; who < town.folk; who++) {
                long then = knownFor(part + 1, layer, one[part], who);
                twice |= once & then;
                once |= then;
                always &= then;
            }
            if (verb[part] == SOME) {
                return once;
            }
            return verb[part] == ALL ? always : twice;
        }

        /** A part's truth when a name is somebody's, whatever else it would have been. */
        private long knownFor(int part, int layer, int name, int who) {
            switch (name) {
                case 0: return (known(part, layer) >>> who & EACH_X) * 0xFL;
                case 1: return (known(part, layer) >>> 4 * who & EACH_Y) * 0x1111L;
                case 2: return (known(part, layer) >>> 16 * who & EACH_Z) * 0x0001000100010001L;
                default: return known(part, who);
            }
        }

        private long truthOfTwo(int part, int layer, Town town) {
            long all = 0;
            for (int who = 0; who < town.folk; who++) {
                int others = 1 << who;
                if (verb[part] != SAME) {
                    others = verb[part] == NEAR ? town.nearTo(who) : town.owedBy(who);
                }
                if (others != 0) {
                    all |= where(one[part], 1 << who, layer) & where(other[part], others, layer);
                }
            }
            return all;
        }

        /** The choices by which a name is one of these. */
        private long where(int name, int these, int layer) {
            long all = 0;
            for (int who = 0; who < MOST_FOLK; who++) {
                if ((these >> who & 1) == 1) {
                    all |= whereOne(name, who, layer);
                }
            }
            return all;
        }

        private long whereOne(int name, int who, int layer) {
            switch (name) {
                case 0: return EACH_X << who;
                case 1: return EACH_Y << 4 * who;
                case 2: return EACH_Z << 16 * who;
                default: return layer == who ? -1L : 0L;
            }
        }

        /** In which of the 75 it is so; found once for a claim. */
        void lookAtModels(Town model) {
            if (looked) {
                return;
            }
            ofThree = 0;
            for (int i = 0; i < MODELS_OF_THREE; i++) {
                model.becomeModel(LARGEST_MODEL, i % 8, i / 8);
                ofThree |= isSo(model) ? 1L << i : 0L;
            }
            ofFewer = 0;
            for (int i = 0; i < MODELS_OF_FEWER; i++) {
                if (i < 3) {
                    model.becomeModel(i == 0 ? 0 : 1, i == 2 ? 1 : 0, 0);
                } else {
                    model.becomeModel(2, (i - 3) % 4, (i - 3) / 4);
                }
                ofFewer |= isSo(model) ? 1 << i : 0;
            }
            looked = true;
        }
    }

    /** Folk, their marks, who is near whom, who owes whom. */
    private static final class Town {
        private int folk = 0;
        private int bakers = 0;
        private int widows = 0;
        private final int[] near = new int[MOST_FOLK];
        private final int[] owes = new int[MOST_FOLK];

        void empty() {
            folk = 0;
            bakers = 0;
            widows = 0;
            Arrays.fill(near, 0);
            Arrays.fill(owes, 0);
        }

        void become(Town other) {
            folk = other.folk;
            bakers = other.bakers;
            widows = other.widows;
            System.arraycopy(other.near, 0, near, 0, MOST_FOLK);
            System.arraycopy(other.owes, 0, owes, 0, MOST_FOLK);
        }

        /** Of 3 folk at most; pairs that are near: bit 0 of 0 and 1, bit 1 of 0 and 2, bit 2 of 1 and 2. */
        void becomeModel(int many, int bakersBits, int pairs) {
            empty();
            folk = many;
            bakers = bakersBits;
            if ((pairs & 1) != 0) {
                change(linkNumber(0, 0, 1));
            }
            if ((pairs & 2) != 0) {
                change(linkNumber(0, 0, 2));
            }
            if ((pairs & 4) != 0) {
                change(linkNumber(0, 1, 2));
            }
        }

        boolean has(int who) {
            return who >= 0 && who < folk && who < MOST_FOLK;
        }

        int nearTo(int who) {
            return has(who) ? near[who] : 0;
        }

        int owedBy(int who) {
            return has(who) ? owes[who] : 0;
        }

        int owingTo(int who) {
            int bits = 0;
            for (int one = 0; one < MOST_FOLK; one++) {
                bits |= (owes[one] >> who & 1) << one;
            }
            return bits;
        }

        static int paintNumber(int what, int who) {
            return what * MOST_FOLK + who;
        }

        static int linkNumber(int what, int who, int other) {
            return LINKS + (what * MOST_FOLK + who) * MOST_FOLK + other;
        }

        private static int linkFrom(int change) {
            return (change - LINKS) / MOST_FOLK % MOST_FOLK;
        }

        private static int linkTo(int change) {
            return (change - LINKS) % MOST_FOLK;
        }

        private static boolean isOwing(int change) {
            return change >= LINKS + MOST_FOLK * MOST_FOLK;
        }

        /** Whether it is a change of this town; each that makes near is told by its lesser one alone. */
        boolean mayChange(int change) {
            if (change < 0 || change >= CHANGES) {
                return false;
            }
            if (change < LINKS) {
                return has(change % MOST_FOLK);
            }
            int from = linkFrom(change);
            int to = linkTo(change);
            return has(from) && has(to) && (isOwing(change) ? from != to : from < to);
        }

        /** Makes a change, or takes it back. */
        void change(int change) {
            if (change < 0 || change >= CHANGES) {
                return;
            }
            if (change < MOST_FOLK) {
                bakers ^= 1 << change;
            } else if (change < LINKS) {
                widows ^= 1 << change - MOST_FOLK;
            } else if (isOwing(change)) {
                owes[linkFrom(change)] ^= 1 << linkTo(change);
            } else {
                near[linkFrom(change)] ^= 1 << linkTo(change);
                near[linkTo(change)] ^= 1 << linkFrom(change);
            }
        }

        boolean isChanged(int change) {
            if (change < 0 || change >= CHANGES) {
                return false;
            }
            if (change < MOST_FOLK) {
                return (bakers >> change & 1) == 1;
            }
            if (change < LINKS) {
                return (widows >> change - MOST_FOLK & 1) == 1;
            }
            int bits = isOwing(change) ? owes[linkFrom(change)] : near[linkFrom(change)];
            return (bits >> linkTo(change) & 1) == 1;
        }

        /** These and all who are near one of them. */
        private int around(int these) {
            int bits = these;
            for (int who = 0; who < MOST_FOLK; who++) {
                if ((these >> who & 1) == 1) {
                    bits |= near[who];
                }
            }
            return bits;
        }

        int steps(int from, int to) {
            int reached = 1 << from;
            for (int taken = 0; taken < MOST_FOLK; taken++) {
                if ((reached >> to & 1) == 1) {
                    return taken;
                }
                reached = around(reached);
            }
            return NONE;
        }

        int groupsMany() {
            int many = 0;
            int seen = 0;
            for (int who = 0; who < folk; who++) {
                if ((seen >> who & 1) == 0) {
                    many++;
                    int group = 1 << who;
                    for (int i = 0; i < MOST_FOLK; i++) {
                        group = around(group);
                    }
                    seen |= group;
                }
            }
            return many;
        }

        int lonely() {
            int bits = 0;
            for (int who = 0; who < folk; who++) {
                if ((nearTo(who) | owedBy(who) | owingTo(who)) == 0) {
                    bits |= 1 << who;
                }
            }
            return bits;
        }

        int nearest() {
            int best = NONE;
            int most = NONE;
            for (int who = 0; who < folk; who++) {
                int many = Integer.bitCount(nearTo(who));
                if (many > most) {
                    most = many;
                    best = who;
                }
            }
            return best;
        }
    }

    /** All that a mark holds: both towns, the pairs, what is known of the lost town. */
    private static final class State {
        private final Town first = new Town();
        private final Town second = new Town();
        private final int[] partner = {NONE, NONE, NONE, NONE};
        private boolean nobodyLeft = false;
        private int reports = 0;
        private long lostOfThree = -1;
        private int lostOfFewer = ALL_OF_FEWER;

        void empty() {
            first.empty();
            second.empty();
            Arrays.fill(partner, NONE);
            nobodyLeft = false;
            reports = 0;
            lostOfThree = -1;
            lostOfFewer = ALL_OF_FEWER;
        }

        void become(State other) {
            first.become(other.first);
            second.become(other.second);
            System.arraycopy(other.partner, 0, partner, 0, MOST_FOLK);
            nobodyLeft = other.nobodyLeft;
            reports = other.reports;
            lostOfThree = other.lostOfThree;
            lostOfFewer = other.lostOfFewer;
        }

        Town town(int number) {
            return number == 0 ? first : second;
        }

        void pair(int one, int with) {
            if (one >= 0 && one < MOST_FOLK) {
                partner[one] = with;
            }
        }

        int partnerOf(int town, int who) {
            for (int one = 0; one < MOST_FOLK; one++) {
                int with = partner[one];
                if (with != NONE && who == (town == 0 ? one : with)) {
                    return town == 0 ? with : one;
                }
            }
            return NONE;
        }

        int pairsMany() {
            int many = 0;
            for (int one = 0; one < MOST_FOLK; one++) {
                many += partner[one] == NONE ? 0 : 1;
            }
            return many;
        }

        int fewestLost() {
            for (int many = 0; many <= LARGEST_MODEL; many++) {
                if (isLostOf(many)) {
                    return many;
                }
            }
            return NONE;
        }

        int mostLost() {
            for (int many = LARGEST_MODEL; many >= 0; many--) {
                if (isLostOf(many)) {
                    return many;
                }
            }
            return NONE;
        }

        /** Whether the lost town may be one of so many folk. */
        private boolean isLostOf(int many) {
            switch (many) {
                case 0: return (lostOfFewer & MODEL_OF_NOBODY) != 0;
                case 1: return (lostOfFewer & MODELS_OF_ONE) != 0;
                case 2: return (lostOfFewer & MODELS_OF_TWO) != 0;
                default: return lostOfThree != 0;
            }
        }
    }

    /** A position on which pairs are tried and taken away again. */
    private static final class Board {
        private Town first = new Town();
        private Town second = first;
        private final int[] partner = {NONE, NONE, NONE, NONE};
        private final int[] taken = new int[2];
        private int code = 0;
        private boolean alike = true;
        private int sides = BOTH_SIDES;
        // What is known of a position: how many rounds it lasts, in how many it does not; of this age alone.
        private final int[] lasts = new int[POSITIONS];
        private final int[] ends = new int[POSITIONS];
        private final int[] ages = new int[POSITIONS];
        private int age = 0;

        void lay(Town one, Town other) {
            first = one;
            second = other;
            alike = true;
            clearPairs();
        }

        void load(State state) {
            lay(state.first, state.second);
            for (int one = 0; one < first.folk; one++) {
                int with = state.partnerOf(0, one);
                if (with != NONE) {
                    alike = alike && fits(one, with);
                    place(one, with);
                }
            }
        }

        private void clearPairs() {
            Arrays.fill(partner, NONE);
            taken[0] = 0;
            taken[1] = 0;
            code = 0;
        }

        void show(int position) {
            clearPairs();
            for (int one = 0; one < MOST_FOLK; one++) {
                int with = position / DIGITS[one] % 5 - 1;
                if (with >= 0) {
                    place(one, with);
                }
            }
        }

        private int folkOf(int town) {
            return town == 0 ? first.folk : second.folk;
        }

        boolean isFree(int town, int who) {
            int many = town == 0 ? first.folk : second.folk;
            int used = town == 0 ? taken[0] : taken[1];
            return who >= 0 && who < many && (used >> who & 1) == 0;
        }

        int freeMany(int town) {
            return folkOf(town) - Integer.bitCount(town == 0 ? taken[0] : taken[1]);
        }

        int freeAt(int town, int place) {
            int passed = 0;
            for (int who = 0; who < folkOf(town); who++) {
                if (isFree(town, who)) {
                    if (passed == place) {
                        return who;
                    }
                    passed++;
                }
            }
            return NONE;
        }

        /** Whether a new pair is to all others as it must be. */
        boolean fits(int one, int with) {
            if (one < 0 || one >= MOST_FOLK || with < 0 || with >= MOST_FOLK
                    || (first.bakers >> one & 1) != (second.bakers >> with & 1)
                    || (first.widows >> one & 1) != (second.widows >> with & 1)) {
                return false;
            }
            for (int other = 0; other < MOST_FOLK; other++) {
                int partnered = partner[other];
                if (partnered >= 0 && partnered < MOST_FOLK
                        && ((first.near[one] >> other & 1) != (second.near[with] >> partnered & 1)
                        || (first.owes[one] >> other & 1) != (second.owes[with] >> partnered & 1)
                        || (first.owes[other] >> one & 1) != (second.owes[partnered] >> with & 1))) {
                    return false;
                }
            }
            return true;
        }

        int codeWith(int one, int with) {
            return one >= 0 && one < MOST_FOLK ? code + DIGITS[one] * (with + 1) : code;
        }

        void place(int one, int with) {
            if (one < 0 || one >= MOST_FOLK || with < 0 || with >= MOST_FOLK) {
                return;
            }
            code += DIGITS[one] * (with + 1);
            partner[one] = with;
            taken[0] |= 1 << one;
            taken[1] |= 1 << with;
        }

        void take(int one) {
            if (one < 0 || one >= MOST_FOLK || partner[one] == NONE) {
                return;
            }
            int with = partner[one];
            code -= DIGITS[one] * (with + 1);
            partner[one] = NONE;
            taken[0] &= ~(1 << one);
            taken[1] &= ~(1 << with);
        }

        /** In how many rounds it is found out from here, an alike position, by pointing at these sides. */
        int lasting(int pointedSides) {
            sides = pointedSides;
            age++;
            return lastingHere();
        }

        private int lastingHere() {
            for (int rounds = 1; rounds <= MOST_ROUNDS; rounds++) {
                if (!holds(rounds)) {
                    return rounds;
                }
            }
            // Behind the fourth round all are in pairs.
            return NEVER;
        }

        boolean lastsFor(int rounds) {
            sides = BOTH_SIDES;
            age++;
            return holds(rounds);
        }

        /** Whether a town can't answer in one of these rounds for want of folk. */
        boolean runsOut(int rounds) {
            int fewer = Math.min(freeMany(0), freeMany(1));
            return freeMany(0) != freeMany(1) && rounds > fewer;
        }

        /** Whether it is not found out in so many rounds. */
        private boolean holds(int rounds) {
            int here = code;
            if (rounds <= 0 || here < 0 || here >= POSITIONS) {
                return true;
            }
            if (ages[here] != age) {
                ages[here] = age;
                lasts[here] = 0;
                ends[here] = NEVER;
            }
            if (rounds <= lasts[here] || rounds >= ends[here]) {
                return rounds <= lasts[here];
            }
            boolean answered = isAnswered(0, rounds) && isAnswered(1, rounds);
            if (answered) {
                lasts[here] = rounds;
            } else {
                ends[here] = rounds;
            }
            return answered;
        }

        private boolean isAnswered(int town, int rounds) {
            if ((sides >> town & 1) == 0) {
                return true;
            }
            for (int who = 0; who < folkOf(town); who++) {
                if (isFree(town, who) && !hasAnswer(town, who, rounds)) {
                    return false;
                }
            }
            return true;
        }

        private boolean hasAnswer(int town, int who, int rounds) {
            int other = 1 - town;
            for (int back = 0; back < folkOf(other); back++) {
                if (isFree(other, back)) {
                    int one = town == 0 ? who : back;
                    int with = town == 0 ? back : who;
                    if (fits(one, with) && holdsWith(one, with, rounds - 1)) {
                        return true;
                    }
                }
            }
            return false;
        }

        private boolean holdsWith(int one, int with, int rounds) {
            place(one, with);
            boolean held = holds(rounds);
            take(one);
            return held;
        }

        /** 4 * the town + who; NONE if it is never found out. */
        int soonestPointing() {
            int rounds = lasting(BOTH_SIDES);
            if (rounds >= NEVER) {
                return NONE;
            }
            for (int i = 0; i < 2 * MOST_FOLK; i++) {
                int town = i / MOST_FOLK;
                int who = i % MOST_FOLK;
                if (isFree(town, who) && !hasAnswer(town, who, rounds)) {
                    return i;
                }
            }
            return NONE;
        }

        int longestReply(int town, int who) {
            sides = BOTH_SIDES;
            age++;
            int other = 1 - town;
            int best = NONE;
            int longest = NONE;
            for (int back = 0; back < folkOf(other); back++) {
                if (isFree(other, back)) {
                    int lasting = lastingWith(town == 0 ? who : back, town == 0 ? back : who);
                    if (lasting > longest) {
                        longest = lasting;
                        best = back;
                    }
                }
            }
            return best;
        }

        private int lastingWith(int one, int with) {
            if (!fits(one, with)) {
                return 0;
            }
            place(one, with);
            int lasting = lastingHere();
            take(one);
            return lasting;
        }

        int keepers(int town, int who, int rounds) {
            sides = BOTH_SIDES;
            age++;
            int bits = 0;
            for (int back = 0; back < folkOf(1 - town); back++) {
                int one = town == 0 ? who : back;
                int with = town == 0 ? back : who;
                if (fits(one, with) && holdsWith(one, with, rounds)) {
                    bits |= 1 << back;
                }
            }
            return bits;
        }

        /** Of all folk, with all of the other town, so that it is alike. */
        int pairings() {
            return first.folk == second.folk ? pairingsFrom(0) : 0;
        }

        private int pairingsFrom(int one) {
            if (one >= first.folk || one >= MOST_FOLK) {
                return 1;
            }
            if (partner[one] != NONE) {
                return pairingsFrom(one + 1);
            }
            int many = 0;
            for (int with = 0; with < second.folk; with++) {
                if (isFree(1, with) && fits(one, with)) {
                    place(one, with);
                    many += pairingsFrom(one + 1);
                    take(one);
                }
            }
            return many;
        }

        /** With whom one is in one of these pairings, as bits. */
        int goesTo(int one) {
            int bits = 0;
            for (int with = 0; with < second.folk; with++) {
                if (fits(one, with)) {
                    place(one, with);
                    bits |= pairings() > 0 ? 1 << with : 0;
                    take(one);
                }
            }
            return bits;
        }
    }

    /**
     * The game with hands. A hand beside another one on the same pair is as good as one not put on, so that a
     * position is a set of pairs here, too; and to leave a hand where it is never hurts while one is left.
     */
    private static final class Hands {
        private final int[] positions = new int[HAND_POSITIONS];
        private final int[] foundIn = new int[POSITIONS];
        private int many = 0;

        int lasting(Board board, int hands) {
            many = 0;
            Arrays.fill(foundIn, 0);
            gather(board, 0, hands);
            boolean more = true;
            for (int rounds = 1; rounds <= HAND_POSITIONS && more; rounds++) {
                more = partLoose(board, hands, rounds);
                partFull(board, hands, rounds);
            }
            return foundIn[0];
        }

        /** All alike positions of so many pairs at most, by the first town's folk from one on. */
        private void gather(Board board, int one, int hands) {
            if (one >= board.first.folk || one >= MOST_FOLK) {
                if (many < HAND_POSITIONS && board.code >= 0 && board.code < POSITIONS) {
                    positions[many] = board.code;
                    foundIn[board.code] = NEVER;
                    many++;
                }
                return;
            }
            gather(board, one + 1, hands);
            for (int with = 0; with < board.second.folk && hands > 0; with++) {
                if (board.isFree(1, with) && board.fits(one, with)) {
                    board.place(one, with);
                    gather(board, one + 1, hands - 1);
                    board.take(one);
                }
            }
        }

        /** Where a hand is left: whether some of these are found out in so many rounds, and not sooner. */
        private boolean partLoose(Board board, int hands, int rounds) {
            boolean more = false;
            for (int i = 0; i < many; i++) {
                board.show(positions[i]);
                boolean loose = Integer.bitCount(board.taken[0]) < hands;
                if (loose && foundOutIn(board.code) == NEVER && isParted(board, rounds)) {
                    foundIn[positions[i]] = rounds;
                    more = true;
                }
            }
            return more;
        }

        /** Where all hands are put on one must be taken off. */
        private void partFull(Board board, int hands, int rounds) {
            for (int i = 0; i < many; i++) {
                board.show(positions[i]);
                boolean full = Integer.bitCount(board.taken[0]) >= hands;
                if (full && foundOutIn(board.code) == NEVER && isPartedByLess(board, rounds)) {
                    foundIn[positions[i]] = rounds;
                }
            }
        }

        private boolean isPartedByLess(Board board, int rounds) {
            for (int one = 0; one < MOST_FOLK; one++) {
                int with = board.partner[one];
                if (with != NONE && foundOutIn(board.code - DIGITS[one] * (with + 1)) <= rounds) {
                    return true;
                }
            }
            return false;
        }

        private boolean isParted(Board board, int rounds) {
            for (int i = 0; i < 2 * MOST_FOLK; i++) {
                int town = i / MOST_FOLK;
                int who = i % MOST_FOLK;
                if (board.isFree(town, who) && !hasAnswer(board, town, who, rounds)) {
                    return true;
                }
            }
            return false;
        }

        private boolean hasAnswer(Board board, int town, int who, int rounds) {
            for (int back = 0; back < MOST_FOLK; back++) {
                if (board.isFree(1 - town, back)) {
                    int next = town == 0 ? board.codeWith(who, back) : board.codeWith(back, who);
                    if (foundOutIn(next) >= rounds) {
                        return true;
                    }
                }
            }
            return false;
        }

        private int foundOutIn(int position) {
            return position >= 0 && position < POSITIONS ? foundIn[position] : 0;
        }
    }

    /** Colours of the folk of both towns, told by 4 * the town + who. */
    private static final class Colours {
        private final int[] colour = new int[2 * MOST_FOLK];
        private final int[] next = new int[2 * MOST_FOLK];
        // Who are of a colour in each town, as bits: of colour c at 2 * c and 2 * c + 1.
        private final int[] members = new int[4 * MOST_FOLK];
        private Town first = new Town();
        private Town second = first;
        private int many = 0;
        private int anew = 0;

        void refine(Town one, Town other) {
            first = one;
            second = other;
            anew = 0;
            many = divide(true);
            for (int i = 0; i < 2 * MOST_FOLK; i++) {
                int before = many;
                many = divide(false);
                if (many <= before) {
                    break;
                }
                anew++;
            }
        }

        int unlike() {
            for (int c = 0; c < many && c < 2 * MOST_FOLK; c++) {
                if (Integer.bitCount(members[2 * c]) != Integer.bitCount(members[2 * c + 1])) {
                    return 1;
                }
            }
            return 0;
        }

        private Town home(int someone) {
            return someone < MOST_FOLK ? first : second;
        }

        private boolean exists(int someone) {
            return home(someone).has(someone % MOST_FOLK);
        }

        /** Gives new colours, the first ones by marks; how many there are. */
        private int divide(boolean byMarks) {
            int given = 0;
            for (int i = 0; i < 2 * MOST_FOLK; i++) {
                if (exists(i)) {
                    int like = firstLike(i, byMarks);
                    next[i] = like < i ? next[like] : given;
                    given = Math.max(given, next[i] + 1);
                }
            }
            Arrays.fill(members, 0);
            for (int i = 0; i < 2 * MOST_FOLK; i++) {
                if (exists(i)) {
                    colour[i] = next[i];
                    members[2 * colour[i] + i / MOST_FOLK] |= 1 << i % MOST_FOLK;
                }
            }
            return given;
        }

        private int firstLike(int someone, boolean byMarks) {
            for (int i = 0; i < someone; i++) {
                if (exists(i) && (byMarks ? isMarkedLike(i, someone) : isSurroundedLike(i, someone))) {
                    return i;
                }
            }
            return someone;
        }

        private boolean isMarkedLike(int one, int other) {
            int who = one % MOST_FOLK;
            int with = other % MOST_FOLK;
            return (home(one).bakers >> who & 1) == (home(other).bakers >> with & 1)
                    && (home(one).widows >> who & 1) == (home(other).widows >> with & 1);
        }

        private boolean isSurroundedLike(int one, int other) {
            if (colour[one] != colour[other]) {
                return false;
            }
            int who = one % MOST_FOLK;
            int with = other % MOST_FOLK;
            return areLike(home(one).nearTo(who), one, home(other).nearTo(with), other)
                    && areLike(home(one).owedBy(who), one, home(other).owedBy(with), other)
                    && areLike(home(one).owingTo(who), one, home(other).owingTo(with), other);
        }

        /** Whether there are as many of each colour among these folk of one's town and those of the other's. */
        private boolean areLike(int these, int one, int those, int other) {
            for (int c = 0; c < many && c < 2 * MOST_FOLK; c++) {
                int here = these & members[2 * c + one / MOST_FOLK];
                int there = those & members[2 * c + other / MOST_FOLK];
                if (Integer.bitCount(here) != Integer.bitCount(there)) {
                    return false;
                }
            }
            return true;
        }
    }

    /** Plays by draws. */
    private static final class Chance {
        private long drawn = 0;
        private int foundOut = 0;
        private int played = 0;

        void begin(int seed) {
            drawn = seed;
            foundOut = 0;
            played = 0;
        }

        private int below(int many) {
            drawn = (drawn * 1103515245L + 12345L) % 2147483648L;
            return many > 0 ? (int) (drawn / 65536L % many) : 0;
        }

        /** From an alike position till it is found out or all are in pairs. */
        void playOn(Board board) {
            boolean goesOn = true;
            for (int i = 0; i <= MOST_FOLK && goesOn; i++) {
                goesOn = board.freeMany(0) + board.freeMany(1) > 0 && isRoundKept(board);
            }
        }

        private boolean isRoundKept(Board board) {
            played++;
            int ahead = board.freeMany(0);
            int drawnOne = below(ahead + board.freeMany(1));
            int town = drawnOne < ahead ? 0 : 1;
            int who = board.freeAt(town, town == 0 ? drawnOne : drawnOne - ahead);
            int others = board.freeMany(1 - town);
            if (others > 0) {
                int back = board.freeAt(1 - town, below(others));
                int one = town == 0 ? who : back;
                int with = town == 0 ? back : who;
                if (board.fits(one, with)) {
                    board.place(one, with);
                    return true;
                }
            }
            foundOut++;
            return false;
        }
    }
}
