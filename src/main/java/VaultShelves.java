/** A record vault whose night work brings frequent records within easier reach. */
public final class VaultShelves {
    public static final int NONE = -1;

    private static final int SHELVES = 6;
    private static final int MIN_ROOM = 10;
    private static final int MAX_ROOM = 99;
    private static final int FIRST_ROOM = 30;
    private static final int MIN_REACH = 1;
    private static final int MAX_REACH = 99;
    private static final int FIRST_REACH_STEP = 10;
    private static final int MAX_RECORDS = 16;
    private static final int MAX_WIDTH = 30;
    private static final int MAX_STEPS = 20;
    private static final int MIN_GAIN = 1;
    private static final int MIN_CODE = 33;
    private static final int MAX_CODE = 126;
    private static final int MAX_TEXT = 60;
    private static final int MAX_SAVED = 6;
    private static final long FIRST_HASH = 4424L;

    private static final int CAN_MOVE = 0;
    private static final int IS_MISPLACED = 1;
    private static final int IS_ON_SHELF = 2;
    private static final int TOO_WIDE = 3;
    private static final int NO_GAIN = 4;

    private static final Word[] WORDS = Word.values();

    private final Vault now = new Vault();
    private final Vault forecast = new Vault();
    private final Step best = new Step();
    private final OrderText text = new OrderText();
    private final Vault[] saved = new Vault[MAX_SAVED];
    private int savedCount;

    public VaultShelves() {
        for (int i = 0; i < MAX_SAVED; i++) {
            saved[i] = new Vault();
        }
    }

    // ---- shelves and records

    public int setShelf(int shelf, int room, int reach)
            throws IndexOutOfBoundsException, IllegalArgumentException, IllegalStateException {
        requireShelf(shelf);
        if (room < MIN_ROOM || room > MAX_ROOM) {
            throw new IllegalArgumentException("the room is not 10 to 99");
        }
        if (reach < MIN_REACH || reach > MAX_REACH) {
            throw new IllegalArgumentException("the reach is not 1 to 99");
        }
        if (now.filled[shelf] > room) {
            throw new IllegalStateException("the records on the shelf need more room");
        }
        saveState();
        now.rooms[shelf] = room;
        now.reaches[shelf] = reach;
        return now.freeRoom(shelf);
    }

    public int addRecord(int width, int shelf)
            throws IndexOutOfBoundsException, IllegalArgumentException, IllegalStateException {
        requireShelf(shelf);
        requireWidth(width);
        if (!now.canTakeIn(width, shelf)) {
            throw new IllegalStateException("the vault or the shelf has no room for the record");
        }
        saveState();
        return now.takeIn(width, shelf);
    }

    public int removeRecord(int record) throws IndexOutOfBoundsException {
        requireRecord(record);
        saveState();
        return now.takeOut(record);
    }

    public int records() {
        return now.count;
    }

    public int width(int record) throws IndexOutOfBoundsException {
        requireRecord(record);
        return now.widths[record];
    }

    public int shelfOf(int record) throws IndexOutOfBoundsException {
        requireRecord(record);
        return now.places[record];
    }

    public int catalog(int record) throws IndexOutOfBoundsException {
        requireRecord(record);
        return now.homes[record];
    }

    public int weight(int record) throws IndexOutOfBoundsException {
        requireRecord(record);
        return now.weightOf(record);
    }

    public int free(int shelf) throws IndexOutOfBoundsException {
        requireShelf(shelf);
        return now.freeRoom(shelf);
    }

    public int reach(int shelf) throws IndexOutOfBoundsException {
        requireShelf(shelf);
        return now.reaches[shelf];
    }

    // ---- calls

    public int call(int record) throws IndexOutOfBoundsException {
        requireRecord(record);
        saveState();
        return now.fetch(record);
    }

    public int misplace(int record, int shelf) throws IndexOutOfBoundsException, IllegalStateException {
        requireRecord(record);
        requireShelf(shelf);
        if (!now.canStandOn(record, shelf)) {
            throw new IllegalStateException("the shelf has no room for the record");
        }
        saveState();
        return now.putOn(record, shelf);
    }

    public int month() {
        saveState();
        return now.beginMonth();
    }

    public int misplaced() {
        return now.countMisplaced();
    }

    public int walked() {
        return now.walkSum;
    }

    // ---- night work

    public int night(int steps) throws IllegalArgumentException {
        requireSteps(steps);
        saveState();
        return now.makeBestSteps(steps, best);
    }

    public int cost() {
        return now.totalCost();
    }

    public int steps() {
        return now.stepCount;
    }

    // ---- forecasts

    public int reason(int record, int shelf) throws IndexOutOfBoundsException {
        requireRecord(record);
        requireShelf(shelf);
        if (now.isMisplaced(record)) {
            return IS_MISPLACED;
        }
        if (now.places[record] == shelf) {
            return IS_ON_SHELF;
        }
        if (now.freeRoom(shelf) < now.widths[record]) {
            return TOO_WIDE;
        }
        return now.moveGain(record, shelf) < MIN_GAIN ? NO_GAIN : CAN_MOVE;
    }

    public int bestGain() {
        now.findBestStep(best);
        return best.gain;
    }

    public int costAfterNight(int steps) throws IllegalArgumentException {
        requireSteps(steps);
        forecast.copyFrom(now);
        forecast.makeBestSteps(steps, best);
        return forecast.totalCost();
    }

    public int walkTo(int record) throws IndexOutOfBoundsException {
        requireRecord(record);
        return now.walkOf(record);
    }

    public int shelfFor(int width) throws IllegalArgumentException {
        requireWidth(width);
        int nearest = NONE;
        for (int shelf = 0; shelf < SHELVES; shelf++) {
            if (now.freeRoom(shelf) >= width
                    && (nearest == NONE || now.reaches[shelf] < now.reaches[nearest])) {
                nearest = shelf;
            }
        }
        return nearest;
    }

    public double fullness() {
        int filled = 0;
        int rooms = 0;
        for (int shelf = 0; shelf < SHELVES; shelf++) {
            filled += now.filled[shelf];
            rooms += now.rooms[shelf];
        }
        return rooms < 1 ? 0.0 : (double) filled / (double) rooms;
    }

    // ---- order text

    public int append(int code) throws IllegalArgumentException, IllegalStateException {
        if (code < MIN_CODE || code > MAX_CODE) {
            throw new IllegalArgumentException("the code is not 33 to 126");
        }
        if (text.length >= MAX_TEXT) {
            throw new IllegalStateException("the buffer is full");
        }
        return text.put(code);
    }

    public int clearText() {
        return text.wipe();
    }

    public int firstError() {
        text.readOrders();
        return text.position;
    }

    public int run() throws IllegalArgumentException {
        if (!text.readOrders()) {
            throw new IllegalArgumentException("the buffer is not a complete order text");
        }
        saveState();
        int executed = 0;
        while (executed < text.orders && execute(executed)) {
            executed++;
        }
        text.wipe();
        return executed;
    }

    // ---- undo

    public int undo() throws IllegalStateException {
        if (savedCount < 1) {
            throw new IllegalStateException("no state is saved");
        }
        savedCount--;
        now.copyFrom(saved[savedCount]);
        return savedCount;
    }

    public int savedStates() {
        return savedCount;
    }

    public long digest() {
        long hash = mix(FIRST_HASH, records());
        hash = mix(hash, misplaced());
        hash = mix(hash, walked());
        hash = mix(hash, cost());
        hash = mix(hash, steps());
        hash = mix(hash, bestGain());
        for (int shelf = 0; shelf < SHELVES; shelf++) {
            hash = mix(hash, now.freeRoom(shelf));
            hash = mix(hash, now.reaches[shelf]);
        }
        for (int record = 0; record < now.count; record++) {
            hash = mix(hash, now.widths[record]);
            hash = mix(hash, now.places[record]);
            hash = mix(hash, now.homes[record]);
            hash = mix(hash, now.weightOf(record));
            hash = mix(hash, now.walkOf(record));
        }
        return hash;
    }

    private static long mix(long hash, int value) {
        return 31 * hash + value;
    }

    private static void requireShelf(int shelf) {
        if (shelf < 0 || shelf >= SHELVES) {
            throw new IndexOutOfBoundsException("there is no such shelf");
        }
    }

    private void requireRecord(int record) {
        if (!now.hasRecord(record)) {
            throw new IndexOutOfBoundsException("there is no such record");
        }
    }

    private static void requireWidth(int width) {
        if (width < 1 || width > MAX_WIDTH) {
            throw new IllegalArgumentException("the width is not 1 to 30");
        }
    }

    private static void requireSteps(int steps) {
        if (steps < 1 || steps > MAX_STEPS) {
            throw new IllegalArgumentException("the steps are not 1 to 20");
        }
    }

    private void saveState() {
        if (savedCount == MAX_SAVED) {
            discardOldestState();
        }
        saved[savedCount].copyFrom(now);
        savedCount++;
    }

    /** The oldest one goes to the end instead of away: its rows are used for the next state. */
    private void discardOldestState() {
        Vault oldest = saved[0];
        for (int i = 1; i < MAX_SAVED; i++) {
            saved[i - 1] = saved[i];
        }
        saved[MAX_SAVED - 1] = oldest;
        savedCount = MAX_SAVED - 1;
    }

    /** Answers false, and changes nothing, where the method of the order would throw. */
    private boolean execute(int order) {
        Word word = text.words[order];
        int number = text.numbers[order];
        int shelf = text.shelves[order];
        if (word == null) {
            return false;
        }
        switch (word) {
            case ADD:
                return executeAdd(number, shelf);
            case CALL:
                return executeCall(number);
            case LOSE:
                return executeLose(number, shelf);
            case MONTH:
                now.beginMonth();
                return true;
            case NIGHT:
                now.makeBestSteps(number, best);
                return true;
            default:
                return false;
        }
    }

    private boolean executeAdd(int width, int shelf) {
        if (!now.canTakeIn(width, shelf)) {
            return false;
        }
        now.takeIn(width, shelf);
        return true;
    }

    private boolean executeCall(int record) {
        if (!now.hasRecord(record)) {
            return false;
        }
        now.fetch(record);
        return true;
    }

    private boolean executeLose(int record, int shelf) {
        if (!now.hasRecord(record) || !now.canStandOn(record, shelf)) {
            return false;
        }
        now.putOn(record, shelf);
        return true;
    }

    /** The state that undo restores. Its methods take records and shelves that are there. */
    private static final class Vault {
        final int[] rooms = new int[SHELVES];
        final int[] reaches = new int[SHELVES];
        final int[] filled = new int[SHELVES];
        final int[] widths = new int[MAX_RECORDS];
        final int[] places = new int[MAX_RECORDS];
        final int[] homes = new int[MAX_RECORDS];
        final int[] newCalls = new int[MAX_RECORDS];
        final int[] oldCalls = new int[MAX_RECORDS];
        int count;
        int walkSum;
        int stepCount;

        Vault() {
            for (int shelf = 0; shelf < SHELVES; shelf++) {
                rooms[shelf] = FIRST_ROOM;
                reaches[shelf] = FIRST_REACH_STEP * (shelf + 1);
            }
        }

        void copyFrom(Vault other) {
            System.arraycopy(other.rooms, 0, rooms, 0, SHELVES);
            System.arraycopy(other.reaches, 0, reaches, 0, SHELVES);
            System.arraycopy(other.filled, 0, filled, 0, SHELVES);
            System.arraycopy(other.widths, 0, widths, 0, MAX_RECORDS);
            System.arraycopy(other.places, 0, places, 0, MAX_RECORDS);
            System.arraycopy(other.homes, 0, homes, 0, MAX_RECORDS);
            System.arraycopy(other.newCalls, 0, newCalls, 0, MAX_RECORDS);
            System.arraycopy(other.oldCalls, 0, oldCalls, 0, MAX_RECORDS);
            count = other.count;
            walkSum = other.walkSum;
            stepCount = other.stepCount;
        }

        boolean hasRecord(int record) {
            return record >= 0 && record < count;
        }

        int freeRoom(int shelf) {
            return rooms[shelf] - filled[shelf];
        }

        int weightOf(int record) {
            return 2 * newCalls[record] + oldCalls[record];
        }

        boolean isMisplaced(int record) {
            return places[record] != homes[record];
        }

        int countMisplaced() {
            int found = 0;
            for (int record = 0; record < count; record++) {
                if (isMisplaced(record)) {
                    found++;
                }
            }
            return found;
        }

        int totalCost() {
            int sum = 0;
            for (int record = 0; record < count; record++) {
                sum += weightOf(record) * reaches[homes[record]];
            }
            return sum;
        }

        boolean canTakeIn(int width, int shelf) {
            return count < MAX_RECORDS && freeRoom(shelf) >= width;
        }

        int takeIn(int width, int shelf) {
            int record = count;
            count++;
            widths[record] = width;
            places[record] = shelf;
            homes[record] = shelf;
            newCalls[record] = 0;
            oldCalls[record] = 0;
            filled[shelf] += width;
            return record;
        }

        int takeOut(int record) {
            int shelf = places[record];
            filled[shelf] -= widths[record];
            count--;
            for (int i = record; i < count; i++) {
                widths[i] = widths[i + 1];
                places[i] = places[i + 1];
                homes[i] = homes[i + 1];
                newCalls[i] = newCalls[i + 1];
                oldCalls[i] = oldCalls[i + 1];
            }
            return shelf;
        }

        boolean canStandOn(int record, int shelf) {
            return places[record] == shelf || freeRoom(shelf) >= widths[record];
        }

        int putOn(int record, int shelf) {
            int before = places[record];
            filled[before] -= widths[record];
            filled[shelf] += widths[record];
            places[record] = shelf;
            return before;
        }

        int fetch(int record) {
            int walk = walkOf(record);
            newCalls[record]++;
            walkSum += walk;
            homes[record] = places[record];
            return walk;
        }

        int walkOf(int record) {
            int home = homes[record];
            int walk = reaches[home];
            if (!isMisplaced(record)) {
                return walk;
            }
            for (int shelf = 0; shelf < SHELVES; shelf++) {
                if (shelf != home && !isSearchedBefore(places[record], shelf)) {
                    walk += reaches[shelf];
                }
            }
            return walk;
        }

        private boolean isSearchedBefore(int shelf, int other) {
            return reaches[shelf] < reaches[other] || reaches[shelf] == reaches[other] && shelf < other;
        }

        int beginMonth() {
            int ended = 0;
            for (int record = 0; record < count; record++) {
                ended += newCalls[record];
                oldCalls[record] = newCalls[record];
                newCalls[record] = 0;
            }
            return ended;
        }

        int makeBestSteps(int most, Step best) {
            for (int made = 0; made < most; made++) {
                findBestStep(best);
                if (best.gain < MIN_GAIN) {
                    return made;
                }
                makeStep(best);
            }
            return most;
        }

        /** Offers the steps in the order in which they come among equals: the first greatest one stays. */
        void findBestStep(Step best) {
            best.forget();
            for (int record = 0; record < count; record++) {
                if (!isMisplaced(record)) {
                    offerMoves(record, best);
                }
            }
            for (int first = 0; first < count; first++) {
                if (!isMisplaced(first)) {
                    offerExchanges(first, best);
                }
            }
        }

        private void offerMoves(int record, Step best) {
            for (int shelf = 0; shelf < SHELVES; shelf++) {
                if (shelf != places[record] && freeRoom(shelf) >= widths[record]) {
                    best.offer(moveGain(record, shelf), record, shelf, NONE);
                }
            }
        }

        int moveGain(int record, int shelf) {
            return weightOf(record) * (reaches[places[record]] - reaches[shelf]);
        }

        private void offerExchanges(int first, Step best) {
            for (int second = first + 1; second < count; second++) {
                if (!isMisplaced(second) && canExchange(first, second)) {
                    best.offer(exchangeGain(first, second), first, places[second], second);
                }
            }
        }

        private boolean canExchange(int first, int second) {
            int wider = widths[second] - widths[first];
            return places[first] != places[second]
                    && freeRoom(places[first]) >= wider
                    && freeRoom(places[second]) >= -wider;
        }

        private int exchangeGain(int first, int second) {
            return (weightOf(first) - weightOf(second)) * (reaches[places[first]] - reaches[places[second]]);
        }

        private void makeStep(Step step) {
            int shelf = bring(step.record, step.shelf);
            if (step.partner != NONE) {
                bring(step.partner, shelf);
            }
            stepCount++;
        }

        private int bring(int record, int shelf) {
            homes[record] = shelf;
            return putOn(record, shelf);
        }
    }

    /** The best step of those that were offered; its partner is NONE if it is a move. */
    private static final class Step {
        int gain;
        int record;
        int shelf;
        int partner;

        void forget() {
            gain = 0;
        }

        void offer(int offeredGain, int offeredRecord, int offeredShelf, int offeredPartner) {
            if (offeredGain > gain) {
                gain = offeredGain;
                record = offeredRecord;
                shelf = offeredShelf;
                partner = offeredPartner;
            }
        }
    }

    /** The words that orders begin with, and what follows each. */
    private enum Word {
        ADD("add", 1, MAX_WIDTH, true),
        CALL("call", 0, MAX_RECORDS - 1, false),
        LOSE("lose", 0, MAX_RECORDS - 1, true),
        MONTH("month", NONE, NONE, false),
        NIGHT("night", 1, MAX_STEPS, false);

        final String letters;
        final int least;
        final int most;
        final boolean hasShelf;

        Word(String letters, int least, int most, boolean hasShelf) {
            this.letters = letters;
            this.least = least;
            this.most = most;
            this.hasShelf = hasShelf;
        }

        boolean hasNumber() {
            return least != NONE;
        }

        boolean beginsWith(int sign) {
            return letters.length() > 0 && letters.charAt(0) == sign;
        }
    }

    /** The buffer, and the orders that were last read from it. */
    private static final class OrderText {
        final int[] signs = new int[MAX_TEXT];
        final Word[] words = new Word[MAX_TEXT];
        final int[] numbers = new int[MAX_TEXT];
        final int[] shelves = new int[MAX_TEXT];
        int length;
        int orders;
        int position;

        int put(int sign) {
            signs[length] = sign;
            length++;
            return length;
        }

        int wipe() {
            int before = length;
            length = 0;
            return before;
        }

        /** Answers whether the text is complete; the position is where reading came to its end. */
        boolean readOrders() {
            position = 0;
            orders = 0;
            for (int order = 0; order < MAX_TEXT; order++) {
                if (!readOrder(order)) {
                    return false;
                }
                orders = order + 1;
                if (position >= length) {
                    return true;
                }
                if (!readSign(';')) {
                    return false;
                }
            }
            return false;
        }

        private boolean readOrder(int order) {
            Word word = wordAhead();
            if (word == null || !readLetters(word.letters)) {
                return false;
            }
            words[order] = word;
            if (word.hasNumber() && !readNumber(order, word)) {
                return false;
            }
            return !word.hasShelf || readSign('@') && readShelf(order);
        }

        /** One letter tells the word, for no two words begin alike. */
        private Word wordAhead() {
            int sign = signAhead();
            for (Word word : WORDS) {
                if (word.beginsWith(sign)) {
                    return word;
                }
            }
            return null;
        }

        private boolean readLetters(String letters) {
            for (int i = 0; i < letters.length(); i++) {
                if (!readSign(letters.charAt(i))) {
                    return false;
                }
            }
            return true;
        }

        /** Two digits are enough, and each one may stand alone: no range begins above 1 or ends above 99. */
        private boolean readNumber(int order, Word word) {
            int number = digitAhead();
            if (number == NONE || number < word.least) {
                return false;
            }
            position++;
            int digit = digitAhead();
            if (number > 0 && digit != NONE && 10 * number + digit <= word.most) {
                number = 10 * number + digit;
                position++;
            }
            numbers[order] = number;
            return true;
        }

        private boolean readShelf(int order) {
            int shelf = digitAhead();
            if (shelf == NONE || shelf >= SHELVES) {
                return false;
            }
            shelves[order] = shelf;
            position++;
            return true;
        }

        private boolean readSign(int sign) {
            if (signAhead() != sign) {
                return false;
            }
            position++;
            return true;
        }

        private int digitAhead() {
            int sign = signAhead();
            return sign < '0' || sign > '9' ? NONE : sign - '0';
        }

        private int signAhead() {
            return position < length ? signs[position] : NONE;
        }
    }
}
