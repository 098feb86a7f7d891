import java.util.Arrays;

/**
 * Nested envelopes that go through three inns, each of which opens just one cover.
 *
 * The numbers of the state stand in {@link State}, the saved ones in {@link SavedStates}, and the
 * buffer with the grammar of the orders in {@link OrderText}; this class is the face over them.
 */
public final class NestedEnvelopes {

    /** There is no such number. */
    public static final int NONE = -1;

    /** What is seen of the traveller, in see(). */
    public static final int TRAVELLER = 8;

    private static final int INNS = 8;
    private static final int ALL_INNS = 0xff;
    private static final int HALLS = 4;
    private static final int FIRST_SEEN_HALL = 10;
    private static final int LEAST_KEY = 1111;
    private static final int BODIES = 10000;
    private static final int COVER_FACTOR = 7;
    private static final int UNCOVER_FACTOR = 7143;

    private static final int MOST_ROADS = 6;
    private static final int INNS_OF_ROAD = 3;
    private static final int AT_TRAVELLER = 0;
    private static final int AT_HALL = 4;

    private static final int MOST_ENVELOPES = 12;
    private static final int NUMBERS_OF_ENVELOPE = 4;
    private static final int ROAD = 0;
    private static final int PLACE = 1;
    private static final int BODY = 2;
    private static final int DIRECTION = 3;
    private static final int OUT = 0;
    private static final int BACK = 1;

    private static final int COUNTS = 5;
    private static final int LETTERS_SENT = 0;
    private static final int LETTERS_DELIVERED = 1;
    private static final int ANSWERS_SENT = 2;
    private static final int ANSWERS_GOT = 3;
    private static final int LOST = 4;

    private static final int MOST_TICKS = 9;
    private static final int LEAST_WORK_PLACES = 3;
    private static final int FIRST_CODE = 33;
    private static final int LAST_CODE = 126;
    private static final int MOST_CODES = 60;
    private static final int MOST_SAVED = 6;
    private static final long HASH_START = 4726L;

    private static final int FINE = 0;
    private static final int NO_SUCH_NUMBER = 1;
    private static final int WRONG_ARGUMENT = 2;
    private static final int WRONG_STATE = 3;

    private final State now;
    private final SavedStates saved;
    private final OrderText text;

    /** Creates open inns without roads. */
    public NestedEnvelopes() {
        now = new State();
        saved = new SavedStates();
        text = new OrderText();
    }

    // ---- inns

    /** Opens or closes an inn; returns whether it was open before. Undoable. */
    public boolean setOpen(int inn, boolean isOpen) throws IndexOutOfBoundsException {
        refuse(innFault(inn));
        saved.keep(now);
        boolean wasOpen = now.hasOpen(inn);
        now.turn(inn, isOpen);
        return wasOpen;
    }

    /** Sets the key of an inn; returns the previous one. Undoable. */
    public int setKey(int inn, int key) throws IndexOutOfBoundsException, IllegalArgumentException {
        refuse(innAndBodyFault(inn, key));
        saved.keep(now);
        int previous = read(now.keys, inn);
        write(now.keys, inn, key);
        return previous;
    }

    /** Tells whether an inn is open. */
    public boolean isOpen(int inn) throws IndexOutOfBoundsException {
        refuse(innFault(inn));
        return now.hasOpen(inn);
    }

    /** Returns the key of an inn. */
    public int key(int inn) throws IndexOutOfBoundsException {
        refuse(innFault(inn));
        return read(now.keys, inn);
    }

    /** Covers a body with the key of an inn. */
    public int cover(int inn, int body) throws IndexOutOfBoundsException, IllegalArgumentException {
        refuse(innAndBodyFault(inn, body));
        return covered(body, read(now.keys, inn));
    }

    /** Uncovers a body with the key of an inn. */
    public int uncover(int inn, int body) throws IndexOutOfBoundsException, IllegalArgumentException {
        refuse(innAndBodyFault(inn, body));
        return uncovered(body, read(now.keys, inn));
    }

    // ---- roads

    /** Lays a road; returns its number. Undoable. */
    public int lay(int first, int second, int third, int hall)
            throws IndexOutOfBoundsException, IllegalArgumentException, IllegalStateException {
        refuse(layFault(first, second, third, hall));
        saved.keep(now);
        return now.addRoad(first, second, third, hall);
    }

    /** Takes the last road up; returns the number of roads that are left. Undoable. */
    public int takeUp() throws IllegalStateException {
        if (now.roadCount == 0 || now.isUsed(now.roadCount - 1)) {
            throw new IllegalStateException("there is no road, or an envelope is on the last one");
        }
        saved.keep(now);
        now.removeLastRoad();
        return now.roadCount;
    }

    /** Returns the number of roads. */
    public int roads() {
        return now.roadCount;
    }

    /** Returns an inn of a road. */
    public int inn(int road, int place) throws IndexOutOfBoundsException {
        refuse(isBetween(place, 1, INNS_OF_ROAD) ? roadFault(road) : NO_SUCH_NUMBER);
        return now.innAt(road, place);
    }

    /** Returns the hall of a road. */
    public int hall(int road) throws IndexOutOfBoundsException {
        refuse(roadFault(road));
        return read(now.roadHalls, road);
    }

    /** Tells whether a road stands. */
    public boolean stands(int road) throws IndexOutOfBoundsException {
        refuse(roadFault(road));
        return now.allOpenOn(road);
    }

    /** Returns what an inn sees of a road: an inn, TRAVELLER, 10 plus a hall, or NONE. */
    public int see(int inn, int road, int side) throws IndexOutOfBoundsException {
        refuse(innFault(inn));
        refuse(isBetween(side, 0, 1) ? roadFault(road) : NO_SUCH_NUMBER);
        return now.seenBeside(inn, road, side);
    }

    /** Returns the inns that an inn knows, as a bit mask. */
    public int known(int inn) throws IndexOutOfBoundsException {
        refuse(innFault(inn));
        return now.knownMask(inn);
    }

    // ---- envelopes

    /** Sends a letter; returns the number of the envelope. Undoable. */
    public int send(int road, int body)
            throws IndexOutOfBoundsException, IllegalArgumentException, IllegalStateException {
        refuse(sendFault(road, body));
        saved.keep(now);
        return now.addLetter(road, body);
    }

    /** Lets a hall answer; returns the number of the envelope. Undoable. */
    public int answer(int hall, int body)
            throws IndexOutOfBoundsException, IllegalArgumentException, IllegalStateException {
        refuse(answerFault(hall, body));
        saved.keep(now);
        return now.addAnswer(hall, body);
    }

    /** Lets ticks pass; returns the number of letters and answers that arrive in them. Undoable. */
    public int pass(int ticks) throws IllegalArgumentException {
        if (!isBetween(ticks, 1, MOST_TICKS)) {
            throw new IllegalArgumentException("ticks is out of range");
        }
        saved.keep(now);
        return now.letTicksPass(ticks);
    }

    /** Returns the number of envelopes on the way. */
    public int envelopes() {
        return now.envelopeCount;
    }

    /** Returns a number of an envelope: 0 its road, 1 its place, 2 its body, 3 its direction. */
    public int envelope(int envelope, int what) throws IndexOutOfBoundsException {
        refuse(isBetween(what, 0, NUMBERS_OF_ENVELOPE - 1) ? envelopeFault(envelope) : NO_SUCH_NUMBER);
        return now.ofEnvelope(envelope, what);
    }

    /** Returns the last letter that a hall got, or NONE. */
    public int letter(int hall) throws IndexOutOfBoundsException {
        refuse(hallFault(hall));
        return read(now.letters, hall);
    }

    /** Returns the last answer that the traveller got, or NONE. */
    public int lastAnswer() {
        return now.answerGot;
    }

    /** Returns a count: 0 and 1 letters sent and delivered, 2 and 3 answers sent and got, 4 lost. */
    public int count(int what) throws IndexOutOfBoundsException {
        refuse(isBetween(what, 0, COUNTS - 1) ? FINE : NO_SUCH_NUMBER);
        return read(now.counts, what);
    }

    /** Returns the share of letters that were delivered; 1.0 if none was sent. */
    public double deliveredShare() {
        int sent = read(now.counts, LETTERS_SENT);
        if (sent == 0) {
            return 1.0;
        }
        return (double) read(now.counts, LETTERS_DELIVERED) / (double) sent;
    }

    // ---- forecasts; they change nothing

    /** Predicts how many envelopes on the way would be lost if an inn was closed now. */
    public int lostIfClosed(int inn) throws IndexOutOfBoundsException {
        refuse(innFault(inn));
        return now.lostWithout(inn);
    }

    /** Predicts after how many ticks an envelope arrives; NONE if it will be lost. */
    public int ticksTo(int envelope) throws IndexOutOfBoundsException {
        refuse(envelopeFault(envelope));
        return now.ticksLeft(envelope, now.openMask);
    }

    /** Finds the open inn at this place among those with the least work, or NONE. */
    public int leastWork(int place) throws IndexOutOfBoundsException {
        refuse(isBetween(place, 1, LEAST_WORK_PLACES) ? FINE : NO_SUCH_NUMBER);
        return now.leastUsedInn(place);
    }

    // ---- order text

    /** Appends a character to the buffer; returns its new length. */
    public int append(int code) throws IllegalArgumentException, IllegalStateException {
        if (!isBetween(code, FIRST_CODE, LAST_CODE)) {
            throw new IllegalArgumentException("code is out of range");
        }
        if (text.length >= MOST_CODES) {
            throw new IllegalStateException("the buffer is full");
        }
        text.add(code);
        return text.length;
    }

    /** Empties the buffer; returns the length that it had. */
    public int clearText() {
        return text.empty();
    }

    /** Finds the first error of the buffer; returns its length if there is none. */
    public int firstError() {
        return text.errorIndex();
    }

    /** Executes the orders in the buffer; returns how many. Undoable, as one call. */
    public int run() throws IllegalArgumentException {
        if (!text.isComplete()) {
            throw new IllegalArgumentException("the buffer is not a complete order text");
        }
        saved.keep(now);
        int executed = 0;
        int start = 0;
        for (int end = 1; end <= text.length; end++) {
            if (end == text.length || text.codeAt(end) == ';') {
                if (!executeOrder(start, end)) {
                    break;
                }
                executed++;
                start = end + 1;
            }
        }
        text.empty();
        return executed;
    }

    // ---- undo

    /** Restores the state that was saved last; returns the number of saved states that are left. */
    public int undo() throws IllegalStateException {
        if (saved.size == 0) {
            throw new IllegalStateException("no state is saved");
        }
        saved.giveBack(now);
        return saved.size;
    }

    /** Returns the number of saved states. */
    public int savedStates() {
        return saved.size;
    }

    /** Computes a hash of the state. */
    public long digest() {
        long hash = HASH_START;
        hash = mixed(hash, now.roadCount);
        hash = mixed(hash, now.envelopeCount);
        hash = mixed(hash, now.answerGot);
        hash = mixedRow(hash, now.counts);
        hash = mixedInns(hash);
        hash = mixedRoads(hash);
        hash = mixedEnvelopes(hash);
        hash = mixedRow(hash, now.letters);
        for (int place = 1; place <= LEAST_WORK_PLACES; place++) {
            hash = mixed(hash, now.leastUsedInn(place));
        }
        return hash;
    }

    // ---- what is wrong with a call: the tests stand in the order of the throws clauses

    private static void refuse(int fault) {
        if (fault == NO_SUCH_NUMBER) {
            throw new IndexOutOfBoundsException("a number is out of range");
        }
        if (fault == WRONG_ARGUMENT) {
            throw new IllegalArgumentException("an argument is not allowed");
        }
        if (fault == WRONG_STATE) {
            throw new IllegalStateException("the state does not allow this call");
        }
    }

    private static int innFault(int inn) {
        return isBetween(inn, 0, INNS - 1) ? FINE : NO_SUCH_NUMBER;
    }

    private static int hallFault(int hall) {
        return isBetween(hall, 0, HALLS - 1) ? FINE : NO_SUCH_NUMBER;
    }

    private int roadFault(int road) {
        return isBetween(road, 0, now.roadCount - 1) ? FINE : NO_SUCH_NUMBER;
    }

    private int envelopeFault(int envelope) {
        return isBetween(envelope, 0, now.envelopeCount - 1) ? FINE : NO_SUCH_NUMBER;
    }

    // Keys have the range of bodies, so this serves both.
    private static int innAndBodyFault(int inn, int body) {
        if (innFault(inn) != FINE) {
            return NO_SUCH_NUMBER;
        }
        return isBody(body) ? FINE : WRONG_ARGUMENT;
    }

    private int layFault(int first, int second, int third, int hall) {
        if (innFault(first) != FINE || innFault(second) != FINE || innFault(third) != FINE
                || hallFault(hall) != FINE) {
            return NO_SUCH_NUMBER;
        }
        if (first == second || first == third || second == third) {
            return WRONG_ARGUMENT;
        }
        boolean areOpen = now.hasOpen(first) && now.hasOpen(second) && now.hasOpen(third);
        return areOpen && now.roadCount < MOST_ROADS ? FINE : WRONG_STATE;
    }

    private int sendFault(int road, int body) {
        if (roadFault(road) != FINE) {
            return NO_SUCH_NUMBER;
        }
        if (!isBody(body)) {
            return WRONG_ARGUMENT;
        }
        return now.envelopeCount < MOST_ENVELOPES ? FINE : WRONG_STATE;
    }

    private int answerFault(int hall, int body) {
        if (hallFault(hall) != FINE) {
            return NO_SUCH_NUMBER;
        }
        if (!isBody(body)) {
            return WRONG_ARGUMENT;
        }
        boolean hasRoad = read(now.answerRoads, hall) != NONE;
        return hasRoad && now.envelopeCount < MOST_ENVELOPES ? FINE : WRONG_STATE;
    }

    // ---- the orders of the buffer

    /** Executes the order from start to end; tells whether its method would not throw. */
    private boolean executeOrder(int start, int end) {
        int number = text.digitAt(start + 1);
        switch (text.codeAt(start)) {
            case 'r':
                return layIfFine(number, text.digitAt(start + 2), text.digitAt(start + 3),
                        text.digitAt(start + 4));
            case 's':
                return sendIfFine(number, text.bodyOf(start, end));
            case 'a':
                return answerIfFine(number, text.bodyOf(start, end));
            case 't':
                now.letTicksPass(number);
                return true;
            default:
                now.turn(number, text.codeAt(start) == 'o');
                return true;
        }
    }

    private boolean layIfFine(int first, int second, int third, int hall) {
        if (layFault(first, second, third, hall) != FINE) {
            return false;
        }
        now.addRoad(first, second, third, hall);
        return true;
    }

    private boolean sendIfFine(int road, int body) {
        if (sendFault(road, body) != FINE) {
            return false;
        }
        now.addLetter(road, body);
        return true;
    }

    private boolean answerIfFine(int hall, int body) {
        if (answerFault(hall, body) != FINE) {
            return false;
        }
        now.addAnswer(hall, body);
        return true;
    }

    // ---- the parts of the hash

    private static long mixed(long hash, int value) {
        return 31 * hash + value;
    }

    private static long mixedRow(long hash, int[] row) {
        long result = hash;
        for (int index = 0; index < row.length; index++) {
            result = mixed(result, row[index]);
        }
        return result;
    }

    private long mixedInns(long hash) {
        long result = hash;
        for (int inn = 0; inn < INNS; inn++) {
            result = mixed(result, now.hasOpen(inn) ? 1 : 0);
            result = mixed(result, read(now.keys, inn));
            result = mixed(result, now.knownMask(inn));
            result = mixed(result, now.lostWithout(inn));
        }
        return result;
    }

    private long mixedRoads(long hash) {
        long result = hash;
        for (int road = 0; road < now.roadCount; road++) {
            for (int place = 1; place <= INNS_OF_ROAD; place++) {
                result = mixed(result, now.innAt(road, place));
            }
            result = mixed(result, read(now.roadHalls, road));
            result = mixed(result, now.allOpenOn(road) ? 1 : 0);
        }
        return result;
    }

    private long mixedEnvelopes(long hash) {
        long result = hash;
        for (int envelope = 0; envelope < now.envelopeCount; envelope++) {
            for (int what = 0; what < NUMBERS_OF_ENVELOPE; what++) {
                result = mixed(result, now.ofEnvelope(envelope, what));
            }
            result = mixed(result, now.ticksLeft(envelope, now.openMask));
        }
        return result;
    }

    // ---- numbers and rows

    private static boolean isBetween(int value, int low, int high) {
        return value >= low && value <= high;
    }

    private static boolean isBody(int value) {
        return isBetween(value, 0, BODIES - 1);
    }

    private static int covered(int body, int key) {
        return Math.floorMod(COVER_FACTOR * body + key, BODIES);
    }

    private static int uncovered(int body, int key) {
        return Math.floorMod(UNCOVER_FACTOR * (body - key), BODIES);
    }

    // Numbers that the state keeps serve as indexes too, so each use of a row tests the index anew.
    private static int read(int[] row, int index) {
        return index >= 0 && index < row.length ? row[index] : 0;
    }

    private static void write(int[] row, int index, int value) {
        if (index >= 0 && index < row.length) {
            row[index] = value;
        }
    }

    private static void copyRow(int[] from, int[] to) {
        System.arraycopy(from, 0, to, 0, Math.min(from.length, to.length));
    }

    /** The inns, the roads, the envelopes and the counts: all that undo() restores. */
    private static final class State {

        int openMask;
        final int[] keys;

        int roadCount;
        final int[] roadInns;
        final int[] roadKeys;
        final int[] roadHalls;

        int envelopeCount;
        final int[] envelopeNumbers;

        final int[] letters;
        // The road of a hall's last letter; NONE if there is none or it has been taken up.
        final int[] answerRoads;
        int answerGot;
        final int[] counts;

        State() {
            openMask = ALL_INNS;
            keys = new int[INNS];
            for (int inn = 0; inn < keys.length; inn++) {
                keys[inn] = LEAST_KEY * (inn + 1);
            }
            roadInns = new int[MOST_ROADS * INNS_OF_ROAD];
            roadKeys = new int[MOST_ROADS * INNS_OF_ROAD];
            roadHalls = new int[MOST_ROADS];
            envelopeNumbers = new int[MOST_ENVELOPES * NUMBERS_OF_ENVELOPE];
            letters = new int[HALLS];
            Arrays.fill(letters, NONE);
            answerRoads = new int[HALLS];
            Arrays.fill(answerRoads, NONE);
            answerGot = NONE;
            counts = new int[COUNTS];
        }

        void become(State other) {
            openMask = other.openMask;
            copyRow(other.keys, keys);
            roadCount = other.roadCount;
            copyRow(other.roadInns, roadInns);
            copyRow(other.roadKeys, roadKeys);
            copyRow(other.roadHalls, roadHalls);
            envelopeCount = other.envelopeCount;
            copyRow(other.envelopeNumbers, envelopeNumbers);
            copyRow(other.letters, letters);
            copyRow(other.answerRoads, answerRoads);
            answerGot = other.answerGot;
            copyRow(other.counts, counts);
        }

        // ---- inns

        boolean hasOpen(int inn) {
            return isInMask(openMask, inn);
        }

        void turn(int inn, boolean isOpen) {
            int bit = 1 << inn;
            openMask = isOpen ? openMask | bit : openMask & ~bit;
        }

        private static boolean isInMask(int mask, int inn) {
            return (mask >> inn & 1) != 0;
        }

        // ---- roads

        int addRoad(int first, int second, int third, int hall) {
            int road = roadCount;
            putInn(road, 1, first);
            putInn(road, 2, second);
            putInn(road, 3, third);
            write(roadHalls, road, hall);
            roadCount++;
            return road;
        }

        private void putInn(int road, int place, int inn) {
            write(roadInns, INNS_OF_ROAD * road + place - 1, inn);
            write(roadKeys, INNS_OF_ROAD * road + place - 1, read(keys, inn));
        }

        // A later road may bear the same number, so the halls forget it here.
        void removeLastRoad() {
            roadCount--;
            for (int hall = 0; hall < HALLS; hall++) {
                if (read(answerRoads, hall) == roadCount) {
                    write(answerRoads, hall, NONE);
                }
            }
        }

        boolean isUsed(int road) {
            for (int envelope = 0; envelope < envelopeCount; envelope++) {
                if (ofEnvelope(envelope, ROAD) == road) {
                    return true;
                }
            }
            return false;
        }

        int innAt(int road, int place) {
            return read(roadInns, INNS_OF_ROAD * road + place - 1);
        }

        private int keyAt(int road, int place) {
            return read(roadKeys, INNS_OF_ROAD * road + place - 1);
        }

        private int placeOn(int road, int inn) {
            for (int place = 1; place <= INNS_OF_ROAD; place++) {
                if (innAt(road, place) == inn) {
                    return place;
                }
            }
            return NONE;
        }

        boolean allOpenOn(int road) {
            for (int place = 1; place <= INNS_OF_ROAD; place++) {
                if (!hasOpen(innAt(road, place))) {
                    return false;
                }
            }
            return true;
        }

        int seenBeside(int inn, int road, int side) {
            int place = placeOn(road, inn);
            if (place == NONE) {
                return NONE;
            }
            int beside = side == 0 ? place - 1 : place + 1;
            if (beside == AT_TRAVELLER) {
                return TRAVELLER;
            }
            if (beside == AT_HALL) {
                return FIRST_SEEN_HALL + read(roadHalls, road);
            }
            return innAt(road, beside);
        }

        int knownMask(int inn) {
            int mask = 0;
            for (int road = 0; road < roadCount; road++) {
                mask |= innBit(seenBeside(inn, road, 0)) | innBit(seenBeside(inn, road, 1));
            }
            return mask;
        }

        private static int innBit(int seen) {
            return isBetween(seen, 0, INNS - 1) ? 1 << seen : 0;
        }

        private int roadsThrough(int inn) {
            int through = 0;
            for (int road = 0; road < roadCount; road++) {
                if (placeOn(road, inn) != NONE) {
                    through++;
                }
            }
            return through;
        }

        int leastUsedInn(int place) {
            int found = 0;
            for (int work = 0; work <= MOST_ROADS; work++) {
                for (int inn = 0; inn < INNS; inn++) {
                    if (hasOpen(inn) && roadsThrough(inn) == work) {
                        found++;
                        if (found == place) {
                            return inn;
                        }
                    }
                }
            }
            return NONE;
        }

        // ---- envelopes

        int ofEnvelope(int envelope, int what) {
            return read(envelopeNumbers, NUMBERS_OF_ENVELOPE * envelope + what);
        }

        private void putNumber(int envelope, int what, int value) {
            write(envelopeNumbers, NUMBERS_OF_ENVELOPE * envelope + what, value);
        }

        int addLetter(int road, int body) {
            int nested = body;
            for (int place = INNS_OF_ROAD; place >= 1; place--) {
                nested = covered(nested, keyAt(road, place));
            }
            countUp(LETTERS_SENT);
            return addEnvelope(road, AT_TRAVELLER, nested, OUT);
        }

        int addAnswer(int hall, int body) {
            countUp(ANSWERS_SENT);
            return addEnvelope(read(answerRoads, hall), AT_HALL, body, BACK);
        }

        private int addEnvelope(int road, int place, int body, int direction) {
            int envelope = envelopeCount;
            putNumber(envelope, ROAD, road);
            putNumber(envelope, PLACE, place);
            putNumber(envelope, BODY, body);
            putNumber(envelope, DIRECTION, direction);
            envelopeCount++;
            return envelope;
        }

        private void countUp(int what) {
            write(counts, what, read(counts, what) + 1);
        }

        int letTicksPass(int ticks) {
            int arrived = 0;
            for (int tick = 0; tick < ticks; tick++) {
                for (int envelope = 0; envelope < envelopeCount; envelope++) {
                    if (moveOn(envelope)) {
                        arrived++;
                    }
                }
                takeOutGone();
            }
            return arrived;
        }

        /** Moves an envelope to its next place; tells whether it arrives there. */
        private boolean moveOn(int envelope) {
            int step = ofEnvelope(envelope, DIRECTION) == OUT ? 1 : -1;
            int place = ofEnvelope(envelope, PLACE) + step;
            putNumber(envelope, PLACE, place);
            if (place == AT_HALL) {
                reachHall(envelope);
                return true;
            }
            if (place == AT_TRAVELLER) {
                reachTraveller(envelope);
                return true;
            }
            reachInn(envelope, place);
            return false;
        }

        private void reachInn(int envelope, int place) {
            int road = ofEnvelope(envelope, ROAD);
            if (!hasOpen(innAt(road, place))) {
                countUp(LOST);
                putNumber(envelope, PLACE, NONE);
                return;
            }
            int body = ofEnvelope(envelope, BODY);
            int key = keyAt(road, place);
            boolean goesOut = ofEnvelope(envelope, DIRECTION) == OUT;
            putNumber(envelope, BODY, goesOut ? uncovered(body, key) : covered(body, key));
        }

        private void reachHall(int envelope) {
            int road = ofEnvelope(envelope, ROAD);
            int hall = read(roadHalls, road);
            write(letters, hall, ofEnvelope(envelope, BODY));
            write(answerRoads, hall, road);
            countUp(LETTERS_DELIVERED);
            putNumber(envelope, PLACE, NONE);
        }

        private void reachTraveller(int envelope) {
            int road = ofEnvelope(envelope, ROAD);
            int body = ofEnvelope(envelope, BODY);
            for (int place = 1; place <= INNS_OF_ROAD; place++) {
                body = uncovered(body, keyAt(road, place));
            }
            answerGot = body;
            countUp(ANSWERS_GOT);
            putNumber(envelope, PLACE, NONE);
        }

        // An envelope that is no longer on the way has the place NONE until all have moved.
        private void takeOutGone() {
            int kept = 0;
            for (int envelope = 0; envelope < envelopeCount; envelope++) {
                if (ofEnvelope(envelope, PLACE) != NONE) {
                    for (int what = 0; what < NUMBERS_OF_ENVELOPE; what++) {
                        putNumber(kept, what, ofEnvelope(envelope, what));
                    }
                    kept++;
                }
            }
            envelopeCount = kept;
        }

        // ---- forecasts

        int lostWithout(int inn) {
            int lost = 0;
            for (int envelope = 0; envelope < envelopeCount; envelope++) {
                if (ticksLeft(envelope, openMask & ~(1 << inn)) == NONE) {
                    lost++;
                }
            }
            return lost;
        }

        int ticksLeft(int envelope, int openInns) {
            int road = ofEnvelope(envelope, ROAD);
            int current = ofEnvelope(envelope, PLACE);
            boolean goesOut = ofEnvelope(envelope, DIRECTION) == OUT;
            for (int place = 1; place <= INNS_OF_ROAD; place++) {
                boolean isAhead = goesOut ? place > current : place < current;
                if (isAhead && !isInMask(openInns, innAt(road, place))) {
                    return NONE;
                }
            }
            return goesOut ? AT_HALL - current : current;
        }
    }

    /** The saved states, in slots that are used again in turn. */
    private static final class SavedStates {

        private final State[] slots;
        private int next;
        int size;

        SavedStates() {
            slots = new State[MOST_SAVED];
            for (int index = 0; index < slots.length; index++) {
                slots[index] = new State();
            }
        }

        void keep(State state) {
            State slot = slotAt(next);
            if (slot != null) {
                slot.become(state);
            }
            next = next + 1 < MOST_SAVED ? next + 1 : 0;
            size = Math.min(size + 1, MOST_SAVED);
        }

        void giveBack(State state) {
            next = next > 0 ? next - 1 : MOST_SAVED - 1;
            size--;
            State slot = slotAt(next);
            if (slot != null) {
                state.become(slot);
            }
        }

        private State slotAt(int index) {
            return index >= 0 && index < slots.length ? slots[index] : null;
        }
    }

    /** The buffer, and the grammar that its characters keep to. */
    private static final class OrderText {

        private final int[] codes;
        int length;

        OrderText() {
            codes = new int[MOST_CODES];
        }

        void add(int code) {
            write(codes, length, code);
            length++;
        }

        int empty() {
            int before = length;
            length = 0;
            return before;
        }

        int codeAt(int index) {
            return index >= 0 && index < length && index < codes.length ? codes[index] : 0;
        }

        int digitAt(int index) {
            return codeAt(index) - '0';
        }

        /** Returns the body that is written behind the "=" of a send or answer order. */
        int bodyOf(int start, int end) {
            int body = 0;
            for (int index = start + 3; index < end; index++) {
                body = 10 * body + digitAt(index);
            }
            return body;
        }

        int errorIndex() {
            int start = 0;
            for (int index = 0; index < length; index++) {
                if (!fits(start, index)) {
                    return index;
                }
                if (codeAt(index) == ';') {
                    start = index + 1;
                }
            }
            return length;
        }

        boolean isComplete() {
            return errorIndex() == length && endsOrder(lastStart(), length);
        }

        private int lastStart() {
            int start = 0;
            for (int index = 0; index < length; index++) {
                if (codeAt(index) == ';') {
                    start = index + 1;
                }
            }
            return start;
        }

        /** Tells whether the characters of the order at start, which fit, are all of an order. */
        private boolean endsOrder(int start, int end) {
            int size = end - start;
            switch (codeAt(start)) {
                case 'r':
                    return size == 5;
                case 's':
                case 'a':
                    return size >= 4;
                default:
                    return size == 2;
            }
        }

        /** Tells whether an order that begins at start, and fits so far, can go on with this one. */
        private boolean fits(int start, int index) {
            int code = codeAt(index);
            int position = index - start;
            if (position == 0) {
                return isOrderSign(code);
            }
            if (code == ';') {
                return endsOrder(start, index);
            }
            switch (codeAt(start)) {
                case 'r':
                    return fitsLay(start, index);
                case 's':
                    return position == 1 ? isBetween(code, '0', '5') : fitsBody(start, index);
                case 'a':
                    return position == 1 ? isBetween(code, '0', '3') : fitsBody(start, index);
                case 't':
                    return position == 1 && isBetween(code, '1', '9');
                default:
                    return position == 1 && isBetween(code, '0', '7');
            }
        }

        private static boolean isOrderSign(int code) {
            switch (code) {
                case 'r':
                case 's':
                case 'a':
                case 'c':
                case 'o':
                case 't':
                    return true;
                default:
                    return false;
            }
        }

        private boolean fitsLay(int start, int index) {
            int code = codeAt(index);
            int position = index - start;
            if (position > INNS_OF_ROAD) {
                return position == 4 && isBetween(code, '0', '3');
            }
            for (int earlier = start + 1; earlier < index; earlier++) {
                if (codeAt(earlier) == code) {
                    return false;
                }
            }
            return isBetween(code, '0', '7');
        }

        private boolean fitsBody(int start, int index) {
            int code = codeAt(index);
            int position = index - start;
            if (position == 2) {
                return code == '=';
            }
            boolean isZeroBefore = position > 3 && codeAt(start + 3) == '0';
            return position <= 6 && !isZeroBefore && isBetween(code, '0', '9');
        }
    }
}
