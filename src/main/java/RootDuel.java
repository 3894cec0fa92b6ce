/**
 * A contest of two players who lay terms on a polynomial in turn, with claims on how many real roots lie in
 * intervals, a contest of signs at whole numbers, and exact answers on the roots.
 *
 * <p>All objects that a call needs are made once, so that calls leave nothing behind but what they must keep.
 */
public final class RootDuel {
    /** There is none. */
    public static final int NONE = -1;

    private static final int POWERS = 0;
    private static final int BAR = 1;
    private static final int TURNS = 2;
    private static final int REACH = 3;
    private static final int GOAL = 4;
    private static final int BONUS = 5;
    private static final int PURSE = 6;
    private static final int SETTINGS = 7;
    private static final int[] FIRST_SETTINGS = {5, 2, 12, 5, 0, 0, 12};
    private static final int[] LEAST_SETTINGS = {2, 0, 1, 1, 0, 0, 1};
    private static final int[] MOST_SETTINGS = {5, 9, 60, 20, 4, 20, 40};

    private static final int PLAYERS = 2;
    private static final int MOST_POWERS = 5;
    private static final int MOST_TURNS = 60;
    private static final int MOST_CLAIMS = 4;
    private static final int MOST_IN_CLAIM = 4;
    private static final int MOST_STAKE = 9;
    private static final int MOST_COEFFICIENT = 30;
    private static final int MOST_LAID = 9;
    private static final int MOST_PLACE = 20;
    private static final int MOST_PLACES = 6;
    private static final int MOST_UNDONE = 12;
    private static final int MOST_TEXT = 600;
    private static final int MOST_COMMANDS = 40;
    private static final int MOST_OUTPUT = 1024;
    private static final int SLOTS = 2;
    private static final int REASONS = 8;

    /** No root is as far from 0 as this: a root is less than 1 + 30 / 1 by Cauchy's bound. */
    private static final int ROOT_BOUND = 31;

    private static final int CLAIM_FIELDS = 6;
    private static final int FROM = 0;
    private static final int TO = 1;
    private static final int ROOTS = 2;
    private static final int LEAST = 3;
    private static final int STAKE = 4;
    private static final int MADE_IN = 5;

    private static final int COMMAND_FIELDS = 6;
    private static final int LAY = 0;
    private static final int CLAIM = 1;
    private static final int PASS = 2;

    private final Contest contest = new Contest();
    private final Contest trial = new Contest();
    private final Contest[] saved = new Contest[SLOTS];
    private final SignRows signRows = new SignRows();
    private final Reader reader = new Reader();
    private final Page page = new Page();
    private final int[] accounts = new int[REASONS + 1];
    private final long[] shifted = new long[MOST_POWERS];
    private int undoable;

    public RootDuel() {
    }

    // ---- texts

    public int appendText(int fourBytes) throws IllegalStateException {
        if (!reader.hasRoom(4)) {
            throw new IllegalStateException();
        }
        for (int shift = 24; shift >= 0; shift -= 8) {
            reader.append((byte) (fourBytes >> shift));
        }
        return reader.length;
    }

    public int truncateText(int length) throws IllegalArgumentException {
        if (length < 0 || length > reader.length) {
            throw new IllegalArgumentException();
        }
        reader.length = length;
        return length;
    }

    public int load() {
        trial.begin();
        boolean good = reader.readSetup(trial);
        reader.length = 0;
        if (!good) {
            return NONE;
        }
        contest.copyFrom(trial);
        undoable = 0;
        return reader.parts;
    }

    public int play() {
        boolean good = reader.readScript(contest.settings[POWERS]);
        reader.length = 0;
        if (!good) {
            return NONE;
        }
        for (int done = 0; done < reader.parts; done++) {
            int first = reader.argument(done, 1);
            int second = reader.argument(done, 2);
            int reason;
            switch (reader.argument(done, 0)) {
                case LAY:
                    reason = layTerm(first, second);
                    break;
                case CLAIM:
                    reason = makeClaim(first, second, reader.argument(done, 3), reader.argument(done, 4),
                            reader.argument(done, 5));
                    break;
                default:
                    reason = passTurn();
            }
            if (reason != 0) {
                return done;
            }
        }
        return reader.parts;
    }

    public int errorCode() {
        return reader.error;
    }

    public int errorPosition() {
        return reader.errorAt;
    }

    // ---- the contest

    public int count(int what) throws IllegalArgumentException {
        if (what < 0 || what > 15) {
            throw new IllegalArgumentException();
        }
        if (what < SETTINGS) {
            return contest.settings[what];
        }
        switch (what) {
            case 7: return contest.turns;
            case 8: return contest.over ? NONE : contest.mover();
            case 9: return contest.over ? 1 : 0;
            case 10: return contest.barredPowers();
            case 11: return contest.termsLaid();
            case 12: return contest.turns - contest.termsLaid();
            case 13: return undoable;
            case 14: return contest.hasClaimNow() ? 1 : 0;
            default: return contest.bonusPlayer;
        }
    }

    public int power(int power, int what) throws IndexOutOfBoundsException, IllegalArgumentException {
        if (!contest.hasPower(power)) {
            throw new IndexOutOfBoundsException();
        }
        if (what < 0 || what > 4) {
            throw new IllegalArgumentException();
        }
        int last = contest.lastTurnOn(power);
        switch (what) {
            case 0: return contest.polynomial[power];
            case 1: return contest.isBarred(power) ? 1 : 0;
            case 2: return contest.termsOn(power);
            case 3: return last;
            default: return last == NONE ? NONE : last % PLAYERS;
        }
    }

    public int claimOf(int player, int index, int what) throws IndexOutOfBoundsException, IllegalArgumentException {
        if (!isPlayer(player) || index < 0) {
            throw new IndexOutOfBoundsException();
        }
        if (what < 0 || what > 6) {
            throw new IllegalArgumentException();
        }
        if (index >= contest.claimsOf(player)) {
            return NONE;
        }
        if (what == 5) {
            buildRows(contest.polynomial);
            return contest.isRight(player, index, signRows) ? 1 : 0;
        }
        return contest.claimField(player, index, what == 6 ? MADE_IN : what);
    }

    public int player(int player, int what) throws IndexOutOfBoundsException, IllegalArgumentException {
        if (!isPlayer(player)) {
            throw new IndexOutOfBoundsException();
        }
        if (what < 0 || what > 7) {
            throw new IllegalArgumentException();
        }
        buildRows(contest.polynomial);
        switch (what) {
            case 0: return contest.score(player, signRows);
            case 1: return contest.signPoints(player);
            case 2: return contest.claimPoints(player, signRows);
            case 3: return contest.bonusPoints(player);
            case 4: return contest.claimsOf(player);
            case 5: return contest.stakes(player);
            case 6: return contest.rightClaims(player, signRows);
            default: return contest.termsOf(player);
        }
    }

    public int winner() {
        if (!contest.over) {
            return NONE;
        }
        buildRows(contest.polynomial);
        int first = contest.score(0, signRows);
        int second = contest.score(1, signRows);
        if (first == second) {
            return 2;
        }
        return first > second ? 0 : 1;
    }

    public int account(int what) throws IllegalArgumentException {
        if (what < 0 || what > REASONS) {
            throw new IllegalArgumentException();
        }
        return accounts[what];
    }

    // ---- acts of the player whose turn it is: 0 if it is done, otherwise the reason

    public int claim(int a, int b, int roots, boolean least, int stake) throws IllegalArgumentException {
        if (!isInterval(a, b) || roots < 0 || roots > MOST_IN_CLAIM || stake < 1 || stake > MOST_STAKE) {
            throw new IllegalArgumentException();
        }
        return makeClaim(a, b, roots, least ? 1 : 0, stake);
    }

    public int lay(int coefficient, int power) throws IndexOutOfBoundsException, IllegalArgumentException {
        if (!contest.hasPower(power)) {
            throw new IndexOutOfBoundsException();
        }
        if (!isLayable(coefficient)) {
            throw new IllegalArgumentException();
        }
        return layTerm(coefficient, power);
    }

    public int pass() {
        return passTurn();
    }

    public int why(int coefficient, int power) throws IndexOutOfBoundsException, IllegalArgumentException {
        if (!contest.hasPower(power)) {
            throw new IndexOutOfBoundsException();
        }
        if (!isLayable(coefficient)) {
            throw new IllegalArgumentException();
        }
        return contest.refusalOfTerm(coefficient, power);
    }

    public int best() {
        int found = NONE;
        int greatest = 0;
        trial.copyFrom(contest);
        for (int power = 0; power < contest.settings[POWERS]; power++) {
            for (int coefficient = -MOST_LAID; coefficient <= MOST_LAID; coefficient++) {
                if (coefficient == 0 || contest.refusalOfTerm(coefficient, power) != 0) {
                    continue;
                }
                int lead = leadBehind(coefficient, power);
                if (found == NONE || lead > greatest) {
                    found = 20 * power + coefficient + 10;
                    greatest = lead;
                }
            }
        }
        return found;
    }

    public int behind(int coefficient, int power, int what)
            throws IndexOutOfBoundsException, IllegalArgumentException, IllegalStateException {
        if (!contest.hasPower(power)) {
            throw new IndexOutOfBoundsException();
        }
        if (!isLayable(coefficient) || what < 0 || what > 3) {
            throw new IllegalArgumentException();
        }
        if (contest.refusalOfTerm(coefficient, power) != 0) {
            throw new IllegalStateException();
        }
        trial.copyFrom(contest);
        trial.endTurn(coefficient, power, signRows);
        buildRows(trial.polynomial);
        switch (what) {
            case 0: return signRows.allDistinct();
            case 1: return trial.score(0, signRows);
            case 2: return trial.score(1, signRows);
            default: return trial.over ? 1 : 0;
        }
    }

    // ---- values and roots

    public int degree() {
        for (int power = MOST_POWERS - 1; power >= 0; power--) {
            if (contest.polynomial[power] != 0) {
                return power;
            }
        }
        return NONE;
    }

    public long value(int x) throws IllegalArgumentException {
        if (!isPlace(x)) {
            throw new IllegalArgumentException();
        }
        return contest.valueAt(x);
    }

    public int roots(int a, int b) throws IllegalArgumentException {
        if (!isInterval(a, b)) {
            throw new IllegalArgumentException();
        }
        buildRows(contest.polynomial);
        return signRows.distinctBetween(a, b);
    }

    public int allRoots() {
        buildRows(contest.polynomial);
        return signRows.allDistinct();
    }

    public int rootsOfSign(int sign) throws IllegalArgumentException {
        if (sign < -1 || sign > 1) {
            throw new IllegalArgumentException();
        }
        buildRows(contest.polynomial);
        if (signRows.total == 0) {
            return NONE;
        }
        int atZero = contest.polynomial[0] == 0 ? 1 : 0;
        if (sign == 0) {
            return atZero;
        }
        if (sign > 0) {
            return signRows.distinctBetween(0, ROOT_BOUND);
        }
        return signRows.distinctBetween(-ROOT_BOUND, 0) - atZero;
    }

    public int multiplicity(int x) throws IllegalArgumentException {
        if (!isPlace(x)) {
            throw new IllegalArgumentException();
        }
        shiftTo(x);
        for (int i = 0; i < MOST_POWERS; i++) {
            if (shifted[i] != 0) {
                return i;
            }
        }
        return NONE;
    }

    public int near(int index, int places) throws IndexOutOfBoundsException, IllegalArgumentException {
        buildRows(contest.polynomial);
        if (index < 0 || index >= signRows.allDistinct()) {
            throw new IndexOutOfBoundsException();
        }
        if (places < 0 || places > MOST_PLACES) {
            throw new IllegalArgumentException();
        }
        return signRows.below(index, places);
    }

    public double root(int index) throws IndexOutOfBoundsException {
        buildRows(contest.polynomial);
        if (index < 0 || index >= signRows.allDistinct()) {
            throw new IndexOutOfBoundsException();
        }
        int n = signRows.below(index, MOST_PLACES);
        return (double) (2 * n + 1) / (double) (1 << (MOST_PLACES + 1));
    }

    // ---- sign rows

    public int rows() {
        buildRows(contest.polynomial);
        return signRows.total;
    }

    public int rowDegree(int row) throws IndexOutOfBoundsException {
        buildRows(contest.polynomial);
        if (row < 0 || row >= signRows.total) {
            throw new IndexOutOfBoundsException();
        }
        return signRows.degreeOf(row);
    }

    public int rowSign(int row, int x) throws IndexOutOfBoundsException, IllegalArgumentException {
        buildRows(contest.polynomial);
        if (row < 0 || row >= signRows.total) {
            throw new IndexOutOfBoundsException();
        }
        if (!isPlace(x)) {
            throw new IllegalArgumentException();
        }
        return signRows.signAt(row, x);
    }

    public int changes(int rule, int x) throws IllegalArgumentException {
        if (rule < 1 || rule > 2 || !isPlace(x)) {
            throw new IllegalArgumentException();
        }
        if (rule == 2) {
            return derivativeChanges(x);
        }
        buildRows(contest.polynomial);
        return signRows.changesAt(x);
    }

    public int surplus(int a, int b) throws IllegalArgumentException {
        if (!isInterval(a, b)) {
            throw new IllegalArgumentException();
        }
        buildRows(contest.polynomial);
        if (signRows.total == 0) {
            return NONE;
        }
        return derivativeChanges(a) - derivativeChanges(b) - signRows.countedBetween(a, b);
    }

    // ---- output

    public int write() {
        page.begin();
        page.putPolynomial(contest.polynomial);
        return page.length;
    }

    public int writeTurns() {
        page.begin();
        for (int turn = 0; turn < contest.turns && turn < MOST_TURNS; turn++) {
            page.putClaims(contest, turn);
            page.putTerm(contest.laid[turn], contest.laidOn[turn]);
        }
        page.putClaims(contest, contest.turns);
        return page.length;
    }

    public int output(int index) {
        return index >= 0 && index < page.length && index < page.bytes.length ? page.bytes[index] : NONE;
    }

    // ---- undo, saved states

    public int undo() {
        if (undoable <= 0) {
            return NONE;
        }
        contest.takeBackAct();
        undoable--;
        return undoable;
    }

    public void save(int slot) throws IllegalArgumentException {
        if (slot < 0 || slot >= SLOTS) {
            throw new IllegalArgumentException();
        }
        if (saved[slot] == null) {
            saved[slot] = new Contest();
        }
        saved[slot].copyFrom(contest);
    }

    public void restore(int slot) throws IllegalArgumentException, IllegalStateException {
        if (slot < 0 || slot >= SLOTS) {
            throw new IllegalArgumentException();
        }
        if (saved[slot] == null) {
            throw new IllegalStateException();
        }
        contest.copyFrom(saved[slot]);
        undoable = 0;
    }

    // ---- what the face shares

    private static boolean isPlayer(int player) {
        return player == 0 || player == 1;
    }

    private static boolean isPlace(int x) {
        return x >= -MOST_PLACE && x <= MOST_PLACE;
    }

    private static boolean isInterval(int a, int b) {
        return isPlace(a) && isPlace(b) && a < b;
    }

    private static boolean isLayable(int coefficient) {
        return coefficient != 0 && coefficient >= -MOST_LAID && coefficient <= MOST_LAID;
    }

    private void buildRows(int[] polynomial) {
        signRows.take(polynomial);
        signRows.build();
    }

    private int makeClaim(int a, int b, int roots, int least, int stake) {
        int reason = contest.refusalOfClaim(a, b, stake);
        if (reason == 0) {
            contest.addClaim(a, b, roots, least, stake);
        }
        return settle(reason);
    }

    private int layTerm(int coefficient, int power) {
        int reason = contest.refusalOfTerm(coefficient, power);
        if (reason == 0) {
            contest.endTurn(coefficient, power, signRows);
        }
        return settle(reason);
    }

    private int passTurn() {
        int reason = contest.over ? 1 : 0;
        if (reason == 0) {
            contest.endTurn(0, 0, signRows);
        }
        return settle(reason);
    }

    private int settle(int reason) {
        if (reason >= 0 && reason <= REASONS) {
            accounts[reason]++;
        }
        if (reason == 0 && undoable < MOST_UNDONE) {
            undoable++;
        }
        return reason;
    }

    /** The score of the player whose turn it is less that of the other one behind a term; trial is as contest. */
    private int leadBehind(int coefficient, int power) {
        if (!contest.hasPower(power)) {
            return 0;
        }
        int mover = contest.mover();
        trial.polynomial[power] = contest.polynomial[power] + coefficient;
        buildRows(trial.polynomial);
        trial.bonusPlayer = trial.isGoalReached(signRows) ? mover : NONE;
        int lead = trial.score(mover, signRows) - trial.score(1 - mover, signRows);
        trial.polynomial[power] = contest.polynomial[power];
        return lead;
    }

    /** Puts the coefficients of P(x + y), by powers of y: they have the signs of the derivatives of P at x. */
    private void shiftTo(int x) {
        for (int i = 0; i < MOST_POWERS; i++) {
            shifted[i] = contest.polynomial[i];
        }
        for (int low = 0; low < MOST_POWERS; low++) {
            for (int i = MOST_POWERS - 2; i >= low; i--) {
                shifted[i] += x * shifted[i + 1];
            }
        }
    }

    private int derivativeChanges(int x) {
        shiftTo(x);
        int changes = 0;
        int last = 0;
        for (int i = 0; i < MOST_POWERS; i++) {
            int sign = Long.compare(shifted[i], 0);
            if (sign != 0) {
                if (last == -sign) {
                    changes++;
                }
                last = sign;
            }
        }
        return changes;
    }

    /** A contest as it stands; all that save() saves. */
    private static final class Contest {
        final int[] settings = new int[SETTINGS];
        final int[] polynomial = new int[MOST_POWERS];
        /** The coefficient that was laid in each turn, 0 for a pass. */
        final int[] laid = new int[MOST_TURNS];
        final int[] laidOn = new int[MOST_TURNS];
        final int[] claims = new int[PLAYERS * MOST_CLAIMS * CLAIM_FIELDS];
        final int[] claimCount = new int[PLAYERS];
        int turns;
        boolean over;
        int bonusPlayer;

        Contest() {
            begin();
        }

        void begin() {
            System.arraycopy(FIRST_SETTINGS, 0, settings, 0, SETTINGS);
            for (int i = 0; i < MOST_POWERS; i++) {
                polynomial[i] = 0;
            }
            claimCount[0] = 0;
            claimCount[1] = 0;
            turns = 0;
            over = false;
            bonusPlayer = NONE;
        }

        void copyFrom(Contest other) {
            if (other == null) {
                return;
            }
            System.arraycopy(other.settings, 0, settings, 0, SETTINGS);
            System.arraycopy(other.polynomial, 0, polynomial, 0, MOST_POWERS);
            System.arraycopy(other.laid, 0, laid, 0, MOST_TURNS);
            System.arraycopy(other.laidOn, 0, laidOn, 0, MOST_TURNS);
            System.arraycopy(other.claims, 0, claims, 0, PLAYERS * MOST_CLAIMS * CLAIM_FIELDS);
            System.arraycopy(other.claimCount, 0, claimCount, 0, PLAYERS);
            turns = other.turns;
            over = other.over;
            bonusPlayer = other.bonusPlayer;
        }

        int mover() {
            return turns % PLAYERS;
        }

        boolean hasPower(int power) {
            return power >= 0 && power < settings[POWERS] && power < MOST_POWERS;
        }

        // ---- terms

        /** The turn of the latest term on a power; NONE without one. */
        int lastTurnOn(int power) {
            for (int turn = Math.min(turns, MOST_TURNS) - 1; turn >= 0; turn--) {
                if (laid[turn] != 0 && laidOn[turn] == power) {
                    return turn;
                }
            }
            return NONE;
        }

        int termsOn(int power) {
            int terms = 0;
            for (int turn = 0; turn < turns && turn < MOST_TURNS; turn++) {
                if (laid[turn] != 0 && laidOn[turn] == power) {
                    terms++;
                }
            }
            return terms;
        }

        int termsOf(int player) {
            int terms = 0;
            for (int turn = 0; turn < turns && turn < MOST_TURNS; turn++) {
                if (laid[turn] != 0 && turn % PLAYERS == player) {
                    terms++;
                }
            }
            return terms;
        }

        int termsLaid() {
            return termsOf(0) + termsOf(1);
        }

        /** Whether the power is barred in the turn that comes next. */
        boolean isBarred(int power) {
            int last = lastTurnOn(power);
            return last != NONE && (settings[BAR] == 0 || turns <= last + settings[BAR]);
        }

        int barredPowers() {
            int barred = 0;
            for (int power = 0; power < settings[POWERS]; power++) {
                if (isBarred(power)) {
                    barred++;
                }
            }
            return barred;
        }

        int refusalOfTerm(int coefficient, int power) {
            if (over) {
                return 1;
            }
            if (isBarred(power)) {
                return 6;
            }
            int sum = coefficientOf(power) + coefficient;
            if (sum < -MOST_COEFFICIENT || sum > MOST_COEFFICIENT) {
                return 7;
            }
            return sum == 0 && isZeroBut(power) ? 8 : 0;
        }

        int coefficientOf(int power) {
            return power >= 0 && power < MOST_POWERS ? polynomial[power] : 0;
        }

        private boolean isZeroBut(int power) {
            for (int other = 0; other < MOST_POWERS; other++) {
                if (other != power && polynomial[other] != 0) {
                    return false;
                }
            }
            return true;
        }

        /** Ends the turn with a term, or with a pass if the coefficient is 0. */
        void endTurn(int coefficient, int power, SignRows rows) {
            if (power < 0 || power >= MOST_POWERS || turns < 0 || turns >= MOST_TURNS) {
                return;
            }
            int player = mover();
            laid[turns] = coefficient;
            laidOn[turns] = power;
            polynomial[power] += coefficient;
            turns++;
            boolean reached = false;
            if (coefficient != 0 && settings[GOAL] > 0) {
                rows.take(polynomial);
                rows.build();
                reached = isGoalReached(rows);
            }
            if (reached) {
                bonusPlayer = player;
            }
            over = reached || turns >= settings[TURNS] || endsWithTwoPasses() || barredPowers() == settings[POWERS];
        }

        /** Whether a term that made this P, of which the rows are, ends the contest by the roots. */
        boolean isGoalReached(SignRows rows) {
            return settings[GOAL] > 0 && rows.allDistinct() >= settings[GOAL];
        }

        private boolean endsWithTwoPasses() {
            return turns >= 2 && turns <= MOST_TURNS && laid[turns - 1] == 0 && laid[turns - 2] == 0;
        }

        /** Takes back the latest act: ahead of an act, the contest was never over. */
        void takeBackAct() {
            int player = mover();
            if (isPlayer(player) && hasClaimNow()) {
                claimCount[player]--;
                return;
            }
            if (turns <= 0 || turns > MOST_TURNS) {
                return;
            }
            turns--;
            int power = laidOn[turns];
            if (power >= 0 && power < MOST_POWERS) {
                polynomial[power] -= laid[turns];
            }
            over = false;
            bonusPlayer = NONE;
        }

        // ---- claims

        int claimField(int player, int index, int field) {
            int at = (player * MOST_CLAIMS + index) * CLAIM_FIELDS + field;
            return at >= 0 && at < claims.length ? claims[at] : NONE;
        }

        int claimsOf(int player) {
            return isPlayer(player) ? claimCount[player] : 0;
        }

        /** Whether the player whose turn it is has made a claim in it. */
        boolean hasClaimNow() {
            int player = mover();
            int made = claimsOf(player);
            return made > 0 && claimField(player, made - 1, MADE_IN) == turns;
        }

        int stakes(int player) {
            int sum = 0;
            for (int index = 0; index < claimsOf(player); index++) {
                sum += claimField(player, index, STAKE);
            }
            return sum;
        }

        int refusalOfClaim(int a, int b, int stake) {
            int player = mover();
            if (over) {
                return 1;
            }
            if (hasClaimNow()) {
                return 2;
            }
            if (claimsOf(player) >= MOST_CLAIMS) {
                return 3;
            }
            if (overlaps(player, a, b)) {
                return 4;
            }
            return stakes(player) + stake > settings[PURSE] ? 5 : 0;
        }

        private boolean overlaps(int player, int a, int b) {
            for (int index = 0; index < claimsOf(player); index++) {
                int from = Math.max(a, claimField(player, index, FROM));
                int to = Math.min(b, claimField(player, index, TO));
                if (from < to) {
                    return true;
                }
            }
            return false;
        }

        void addClaim(int a, int b, int roots, int least, int stake) {
            int player = mover();
            int at = (player * MOST_CLAIMS + claimsOf(player)) * CLAIM_FIELDS;
            if (!isPlayer(player) || at < 0 || at + CLAIM_FIELDS > claims.length) {
                return;
            }
            claims[at + FROM] = a;
            claims[at + TO] = b;
            claims[at + ROOTS] = roots;
            claims[at + LEAST] = least;
            claims[at + STAKE] = stake;
            claims[at + MADE_IN] = turns;
            claimCount[player]++;
        }

        // ---- scores; the rows are those of the polynomial

        boolean isRight(int player, int index, SignRows rows) {
            if (rows.total == 0) {
                return false;
            }
            int wanted = claimField(player, index, ROOTS);
            int from = claimField(player, index, FROM);
            int to = claimField(player, index, TO);
            int there = rows.changesAbove(from, 0) - rows.changesAbove(to, 0);
            return there == wanted || there > wanted && claimField(player, index, LEAST) == 1;
        }

        int rightClaims(int player, SignRows rows) {
            int right = 0;
            for (int index = 0; index < claimsOf(player); index++) {
                if (isRight(player, index, rows)) {
                    right++;
                }
            }
            return right;
        }

        int claimPoints(int player, SignRows rows) {
            int points = 0;
            for (int index = 0; index < claimsOf(player); index++) {
                int stake = claimField(player, index, STAKE);
                points += isRight(player, index, rows) ? stake : -stake;
            }
            return points;
        }

        int signPoints(int player) {
            int points = 0;
            int wanted = player == 0 ? 1 : -1;
            for (int x = -settings[REACH]; x <= settings[REACH]; x++) {
                if (Long.compare(valueAt(x), 0) == wanted) {
                    points++;
                }
            }
            return points;
        }

        int bonusPoints(int player) {
            return bonusPlayer == player ? settings[BONUS] : 0;
        }

        int score(int player, SignRows rows) {
            return signPoints(player) + claimPoints(player, rows) + bonusPoints(player);
        }

        long valueAt(int x) {
            long sum = 0;
            for (int power = MOST_POWERS - 1; power >= 0; power--) {
                sum = sum * x + polynomial[power];
            }
            return sum;
        }
    }

    /**
     * The rows of the first rule for a polynomial. Each row is kept as a positive multiple with whole coefficients
     * that have no common divisor: that changes no sign, and keeps them below 2 to the 36 for coefficients up to 30.
     */
    private static final class SignRows {
        final long[][] rows = new long[MOST_POWERS][MOST_POWERS];
        final int[] degrees = new int[MOST_POWERS];
        final long[] work = new long[MOST_POWERS];
        int total;

        /** Puts the polynomial for which build() makes the rows. */
        void take(int[] polynomial) {
            for (int i = 0; i < MOST_POWERS && i < polynomial.length; i++) {
                work[i] = polynomial[i];
            }
        }

        /** Goes on with the greatest common divisor of the first row and its derivative, which is the last row. */
        private void descend() {
            if (total > 0 && total <= MOST_POWERS) {
                System.arraycopy(rows[total - 1], 0, work, 0, MOST_POWERS);
                build();
            }
        }

        void build() {
            total = 0;
            boolean more = addWork();
            if (more) {
                derive();
                more = addWork();
            }
            for (int next = 2; more && next < MOST_POWERS; next++) {
                divide();
                more = addWork();
            }
        }

        /** Adds the work row behind the last row if it is not 0, and tells that. */
        private boolean addWork() {
            int top = MOST_POWERS - 1;
            while (top >= 0 && work[top] == 0) {
                top--;
            }
            if (top < 0 || total >= MOST_POWERS) {
                return false;
            }
            reduce();
            System.arraycopy(work, 0, rows[total], 0, MOST_POWERS);
            degrees[total] = top;
            total++;
            return true;
        }

        private void derive() {
            for (int i = 1; i < MOST_POWERS; i++) {
                work[i - 1] = i * rows[0][i];
            }
            work[MOST_POWERS - 1] = 0;
        }

        /** Puts a positive multiple of the next row, the remainder of the last two ones with its signs changed. */
        private void divide() {
            if (total < 2 || total > MOST_POWERS) {
                return;
            }
            long[] divisor = rows[total - 1];
            int low = degrees[total - 1];
            System.arraycopy(rows[total - 2], 0, work, 0, MOST_POWERS);
            for (int top = degrees[total - 2]; top >= low; top--) {
                cancel(top, divisor, low);
            }
            for (int i = 0; i < MOST_POWERS; i++) {
                work[i] = -work[i];
            }
        }

        /** Takes the top power out of the work row, which is stretched by the size of the leading coefficient. */
        private void cancel(int top, long[] divisor, int low) {
            if (low < 0 || low > top || top >= MOST_POWERS || top >= divisor.length) {
                return;
            }
            long size = Math.abs(divisor[low]);
            long factor = divisor[low] > 0 ? work[top] : -work[top];
            work[top] = 0;
            if (low == 1 && top == 1) {
                // a constant: its sign is enough, and the number itself could be too long
                work[0] = signOfSum(size, work[0], -divisor[0], factor);
                return;
            }
            for (int i = 0; i < top; i++) {
                work[i] *= size;
            }
            for (int i = 0; i < low; i++) {
                work[top - low + i] -= factor * divisor[i];
            }
        }

        /** The sign of a * m + b * n, for a and b below 2 to the 36, m and n below 2 to the 51. */
        private static int signOfSum(long a, long m, long b, long n) {
            long mask = (1L << 26) - 1;
            long low = a * (m & mask) + b * (n & mask);
            long high = a * (m >> 26) + b * (n >> 26) + (low >> 26);
            if (high != 0) {
                return high > 0 ? 1 : -1;
            }
            return (low & mask) != 0 ? 1 : 0;
        }

        /** Divides the work row by the greatest common divisor of its coefficients. */
        private void reduce() {
            long divisor = 0;
            for (int i = 0; i < MOST_POWERS; i++) {
                long rest = Math.abs(work[i]);
                for (int step = 0; step < 200 && rest != 0; step++) {
                    long next = divisor % rest;
                    divisor = rest;
                    rest = next;
                }
            }
            if (divisor > 1) {
                for (int i = 0; i < MOST_POWERS; i++) {
                    work[i] /= divisor;
                }
            }
        }

        /** The degree of a row; NONE if there is no such row. */
        int degreeOf(int row) {
            return row >= 0 && row < total && row < MOST_POWERS ? degrees[row] : NONE;
        }

        int signAt(int row, int x) {
            if (row < 0 || row >= MOST_POWERS) {
                return 0;
            }
            long sum = 0;
            for (int i = MOST_POWERS - 1; i >= 0; i--) {
                sum = sum * x + rows[row][i];
            }
            return Long.compare(sum, 0);
        }

        int changesAt(int x) {
            int changes = 0;
            int last = 0;
            for (int row = 0; row < total; row++) {
                int sign = signAt(row, x);
                if (sign != 0) {
                    if (last == -sign) {
                        changes++;
                    }
                    last = sign;
                }
            }
            return changes;
        }

        /**
         * The changes just above point / 2^places, where no row is 0. So they count right also if the point is a
         * multiple root, at which all rows are 0.
         */
        int changesAbove(int point, int places) {
            int changes = 0;
            int last = 0;
            for (int row = 0; row < total; row++) {
                int sign = signAbove(row, point, places);
                if (last == -sign) {
                    changes++;
                }
                last = sign;
            }
            return changes;
        }

        /** The sign of the first derivative, from the row itself on, that is not 0 at point / 2^places. */
        private int signAbove(int row, int point, int places) {
            if (row < 0 || row >= MOST_POWERS || degrees[row] < 0 || degrees[row] >= MOST_POWERS) {
                return 0;
            }
            int top = degrees[row];
            for (int i = 0; i <= top; i++) {
                work[i] = rows[row][i] << (places * (top - i));
            }
            for (int low = 0; low <= top; low++) {
                for (int i = top - 1; i >= low; i--) {
                    work[i] += point * work[i + 1];
                }
                if (work[low] != 0) {
                    return work[low] > 0 ? 1 : -1;
                }
            }
            return 0;
        }

        /** How many roots are greater than a and at most b, each once; NONE if the polynomial is 0. */
        int distinctBetween(int a, int b) {
            return total == 0 ? NONE : changesAbove(a, 0) - changesAbove(b, 0);
        }

        int allDistinct() {
            return total == 0 ? NONE : changesAbove(-ROOT_BOUND, 0) - changesAbove(ROOT_BOUND, 0);
        }

        /** As distinctBetween, each root as often as its multiplicity; the rows are used up. */
        int countedBetween(int a, int b) {
            int sum = 0;
            for (int level = 0; level < MOST_POWERS && total > 1; level++) {
                sum += distinctBetween(a, b);
                descend();
            }
            return sum;
        }

        /** The greatest n with n / 2^places less than the root: up to there, there are at most index roots. */
        int below(int index, int places) {
            int bound = ROOT_BOUND << places;
            int under = changesAbove(-bound, places);
            int low = -bound;
            int high = bound;
            for (int step = 0; step < 32 && high - low > 1; step++) {
                int middle = low + (high - low) / 2;
                if (under - changesAbove(middle, places) <= index) {
                    low = middle;
                } else {
                    high = middle;
                }
            }
            return low;
        }
    }

    /** The text buffer, and the parser of setups and scripts. */
    private static final class Reader {
        private static final int END = 0;
        private static final int WORD = 1;
        private static final int NUMBER = 2;
        private static final int MINUS = 3;
        private static final int SEMICOLON = 4;
        private static final int OTHER = 5;
        private static final int BLANK = 6;
        /** Numbers are read up to this one, which is out of every range. */
        private static final int HUGE = 1000;

        final byte[] text = new byte[MOST_TEXT];
        final int[] commands = new int[MOST_COMMANDS * COMMAND_FIELDS];
        int length;
        int error;
        int errorAt = NONE;
        /** How many statements or commands were read. */
        int parts;
        private int kind;
        private int start;
        private int end;
        private int number;
        /** The number or INT that was accepted last. */
        private int accepted;
        private int toldSettings;
        private int toldStarts;

        // ---- the buffer

        boolean hasRoom(int more) {
            return length + more <= MOST_TEXT;
        }

        void append(byte next) {
            if (length >= 0 && length < text.length) {
                text[length] = next;
                length++;
            }
        }

        // ---- tokens

        /** The kind of the token that the byte belongs to; BLANK for a space, END behind the text. */
        private int kindAt(int index) {
            if (index < 0 || index >= length || index >= text.length) {
                return END;
            }
            int sign = text[index];
            if (sign >= 'a' && sign <= 'z') {
                return WORD;
            }
            if (sign >= '0' && sign <= '9') {
                return NUMBER;
            }
            switch (sign) {
                case ' ':
                case '\n':
                    return BLANK;
                case '-':
                    return MINUS;
                case ';':
                    return SEMICOLON;
                default:
                    return OTHER;
            }
        }

        private void nextToken() {
            start = end;
            while (start < length && kindAt(start) == BLANK) {
                start++;
            }
            kind = kindAt(start);
            number = 0;
            end = start;
            if (kind == WORD || kind == NUMBER) {
                while (end < length && end < text.length && kindAt(end) == kind) {
                    number = kind == NUMBER ? Math.min(HUGE, number * 10 + text[end] - '0') : 0;
                    end++;
                }
            } else if (kind != END) {
                end++;
            }
        }

        private boolean isWord(String word) {
            if (kind != WORD || end - start != word.length()) {
                return false;
            }
            for (int i = 0; i < word.length(); i++) {
                int at = start + i;
                if (at < 0 || at >= text.length || text[at] != word.charAt(i)) {
                    return false;
                }
            }
            return true;
        }

        // ---- parts of both kinds of texts; each reads on behind itself, or keeps the error and answers false

        private void beginText() {
            error = 0;
            errorAt = NONE;
            end = 0;
            parts = 0;
            toldSettings = 0;
            toldStarts = 0;
            nextToken();
        }

        private boolean fail(int code) {
            error = code;
            errorAt = start;
            return false;
        }

        private boolean readSemicolon() {
            if (kind != SEMICOLON) {
                return fail(1);
            }
            nextToken();
            return true;
        }

        private boolean readNumber(int least, int most) {
            if (kind != NUMBER) {
                return fail(1);
            }
            if (number < least || number > most) {
                return fail(2);
            }
            accepted = number;
            nextToken();
            return true;
        }

        private boolean readInteger(int least, int most) {
            boolean minus = kind == MINUS;
            if (minus) {
                nextToken();
            }
            if (kind != NUMBER) {
                return fail(1);
            }
            int told = minus ? -number : number;
            if (told < least || told > most) {
                return fail(2);
            }
            accepted = told;
            nextToken();
            return true;
        }

        // ---- setups

        boolean readSetup(Contest draft) {
            beginText();
            while (kind != END && parts < MOST_TEXT) {
                if (!readStatement(draft) || !readSemicolon()) {
                    return false;
                }
                parts++;
            }
            return true;
        }

        private boolean readStatement(Contest draft) {
            if (isWord("start")) {
                return readStart(draft);
            }
            int setting = settingOfWord();
            if (setting < 0 || setting >= SETTINGS) {
                return fail(1);
            }
            boolean late = setting == POWERS && toldStarts != 0;
            if (late || (toldSettings >> setting & 1) == 1) {
                return fail(3);
            }
            toldSettings |= 1 << setting;
            nextToken();
            if (!readSetting(draft, setting)) {
                return false;
            }
            return setting != GOAL || readSetting(draft, BONUS);
        }

        private int settingOfWord() {
            if (isWord("powers")) {
                return POWERS;
            }
            if (isWord("bar")) {
                return BAR;
            }
            if (isWord("turns")) {
                return TURNS;
            }
            if (isWord("reach")) {
                return REACH;
            }
            if (isWord("goal")) {
                return GOAL;
            }
            return isWord("purse") ? PURSE : NONE;
        }

        private boolean readSetting(Contest draft, int setting) {
            if (setting < 0 || setting >= SETTINGS) {
                return fail(1);
            }
            if (!readNumber(LEAST_SETTINGS[setting], MOST_SETTINGS[setting])) {
                return false;
            }
            draft.settings[setting] = accepted;
            return true;
        }

        private boolean readStart(Contest draft) {
            nextToken();
            if (!readInteger(-MOST_COEFFICIENT, MOST_COEFFICIENT)) {
                return false;
            }
            int coefficient = accepted;
            int powers = draft.settings[POWERS];
            if (kind == NUMBER && number < powers && (toldStarts >> number & 1) == 1) {
                return fail(4);
            }
            if (!readNumber(0, powers - 1) || accepted < 0 || accepted >= MOST_POWERS) {
                return false;
            }
            toldStarts |= 1 << accepted;
            draft.polynomial[accepted] = coefficient;
            return true;
        }

        // ---- scripts

        /** What a command of the script tells: its act at the place 0, then its numbers in their order. */
        int argument(int command, int place) {
            int at = command * COMMAND_FIELDS + place;
            return at >= 0 && at < commands.length ? commands[at] : 0;
        }

        private boolean keep(int place, int told) {
            int at = parts * COMMAND_FIELDS + place;
            if (at >= 0 && at < commands.length) {
                commands[at] = told;
            }
            return true;
        }

        boolean readScript(int powers) {
            beginText();
            while (kind != END && parts <= MOST_COMMANDS) {
                if (!readCommand(powers) || !readSemicolon()) {
                    return false;
                }
                parts++;
            }
            return true;
        }

        private boolean readCommand(int powers) {
            int act = actOfWord();
            if (act == NONE) {
                return fail(1);
            }
            if (parts >= MOST_COMMANDS) {
                return fail(5);
            }
            keep(0, act);
            nextToken();
            if (act == LAY) {
                return readTerm(powers);
            }
            return act == PASS || readClaim();
        }

        private int actOfWord() {
            if (isWord("lay")) {
                return LAY;
            }
            if (isWord("claim")) {
                return CLAIM;
            }
            return isWord("pass") ? PASS : NONE;
        }

        private boolean readTerm(int powers) {
            // a coefficient is never 0, so its range ends ahead of 0 on the side that the minus sign tells
            int least = kind == MINUS ? -MOST_LAID : 1;
            int most = kind == MINUS ? -1 : MOST_LAID;
            return readInteger(least, most) && keep(1, accepted) && readNumber(0, powers - 1) && keep(2, accepted);
        }

        private boolean readClaim() {
            boolean least = isWord("least");
            if (!least && !isWord("exactly")) {
                return fail(1);
            }
            keep(4, least ? 1 : 0);
            nextToken();
            if (!readInteger(-MOST_PLACE, MOST_PLACE - 1)) {
                return false;
            }
            int from = accepted;
            keep(1, from);
            return readInteger(from + 1, MOST_PLACE) && keep(2, accepted)
                    && readNumber(0, MOST_IN_CLAIM) && keep(3, accepted)
                    && readNumber(1, MOST_STAKE) && keep(5, accepted);
        }
    }

    /** The output. */
    private static final class Page {
        final byte[] bytes = new byte[MOST_OUTPUT];
        int length;

        void begin() {
            length = 0;
        }

        private void putSign(char sign) {
            if (length >= 0 && length < bytes.length) {
                bytes[length] = (byte) sign;
                length++;
            }
        }

        private void putText(String text) {
            for (int i = 0; i < text.length(); i++) {
                putSign(text.charAt(i));
            }
        }

        /** Puts a number of the contest: it has two digits at most. */
        private void putNumber(int number) {
            if (number < 0) {
                putSign('-');
            }
            int rest = Math.abs(number);
            if (rest >= 10) {
                putSign((char) ('0' + rest / 10));
            }
            putSign((char) ('0' + rest % 10));
        }

        private void putSpaced(int number) {
            putSign(' ');
            putNumber(number);
        }

        void putPolynomial(int[] polynomial) {
            for (int power = polynomial.length - 1; power >= 0; power--) {
                if (polynomial[power] != 0) {
                    putMonomial(polynomial[power], power);
                }
            }
            if (length == 0) {
                putSign('0');
            }
        }

        private void putMonomial(int coefficient, int power) {
            if (length > 0 && coefficient > 0) {
                putSign('+');
            }
            if (power == 0 || coefficient != 1 && coefficient != -1) {
                putNumber(coefficient);
            } else if (coefficient == -1) {
                putSign('-');
            }
            if (power > 0) {
                putSign('x');
            }
            if (power > 1) {
                putSign('^');
                putNumber(power);
            }
        }

        void putTerm(int coefficient, int power) {
            if (coefficient == 0) {
                putText("pass;");
                return;
            }
            putText("lay");
            putSpaced(coefficient);
            putSpaced(power);
            putSign(';');
        }

        /** The claim that was made in this turn, if there is one. */
        void putClaims(Contest contest, int turn) {
            int player = turn % PLAYERS;
            for (int index = 0; index < contest.claimsOf(player); index++) {
                if (contest.claimField(player, index, MADE_IN) == turn) {
                    putClaim(contest, player, index);
                }
            }
        }

        private void putClaim(Contest contest, int player, int index) {
            putText(contest.claimField(player, index, LEAST) == 1 ? "claim least" : "claim exactly");
            putSpaced(contest.claimField(player, index, FROM));
            putSpaced(contest.claimField(player, index, TO));
            putSpaced(contest.claimField(player, index, ROOTS));
            putSpaced(contest.claimField(player, index, STAKE));
            putSign(';');
        }
    }
}
