/** An executive for batches: units, recipes, batches, ticks, a journal, a history and a text. */
public final class BatchExecutive {
    public static final int INVALID_ARGUMENT = -1;
    public static final int NOT_POSSIBLE = -2;
    public static final int LIMIT_REACHED = -3;
    public static final int NOT_FOUND = -4;

    private static final int NONE = -1;

    private static final int MOST_UNITS = 8;
    private static final int MOST_BATCHES = 12;
    private static final int MOST_VERSIONS = 9;
    private static final int MOST_PHASES = 8;
    private static final int MOST_EVENTS = 40;
    private static final int MOST_PAST_STATES = 4;
    private static final int MOST_CHARACTERS = 100;
    private static final int MOST_TICKS = 50000;
    private static final int MOST_TICKS_AT_ONCE = 500;
    private static final int MOST_TICKS_AHEAD = 2000;
    private static final int MOST_CLEANING = 30;
    private static final int CLEANING_AT_FIRST = 2;

    private static final int KINDS = 4;
    private static final int PIECES = 3;
    private static final int RECIPES = 6;
    private static final int HIGHEST_SIZE = 10000;
    private static final int HIGHEST_PRIORITY = 9;
    private static final int HIGHEST_DURATION = 99;
    private static final int HIGHEST_PERCENT = 100;

    private static final int KIND = 0;
    private static final int DURATION = 1;
    private static final int PIECE = 2;
    private static final int PERCENT = 3;
    private static final int MARK = 4;
    private static final int PHASE_VALUES = 5;

    private static final int READY = 0;
    private static final int RUNNING = 1;
    private static final int HELD = 2;
    private static final int STOPPING = 3;
    private static final int STOPPED = 4;
    private static final int ABORTED = 5;
    private static final int COMPLETE = 6;

    private static final int GETS_UNIT = 0;
    private static final int PHASE_ENDS = 1;
    private static final int IS_HELD = 2;
    private static final int IS_RESTARTED = 3;
    private static final int IS_STOPPED = 4;
    private static final int IS_ABORTED = 5;
    private static final int IS_COMPLETE = 6;

    private static final int WAITS_FOR_NOTHING = 0;
    private static final int WAITS_FOR_BATCH = 1;
    private static final int WAITS_FOR_UNIT = 2;
    private static final int WAITS_FOR_PIECE = 3;

    private static final int FAULTLESS = 0;
    private static final int CANNOT_STAND = 1;
    private static final int OUT_OF_RANGE = 2;
    private static final int TOO_EARLY = 3;
    private static final int TOO_MANY = 4;

    private final Book book;
    private final Text text;
    private final State present;
    private final State trial;
    private final State[] past;
    private int pastCount;

    public BatchExecutive() {
        book = new Book();
        text = new Text();
        present = new State(book);
        trial = new State(book);
        past = new State[MOST_PAST_STATES];
        for (int place = 0; place < MOST_PAST_STATES; place++) {
            past[place] = new State(book);
        }
    }

    // ---- units

    public int unit(int kind, int capacity) {
        if (!isWithin(kind, 0, KINDS - 1) || !isWithin(capacity, 1, HIGHEST_SIZE)) {
            return INVALID_ARGUMENT;
        }
        if (present.unitCount >= MOST_UNITS) {
            return LIMIT_REACHED;
        }
        record();
        return present.addUnit(kind, capacity);
    }

    public int fail(int unit) {
        if (!isUnit(unit)) {
            return INVALID_ARGUMENT;
        }
        if (present.units[unit].broken) {
            return NOT_POSSIBLE;
        }
        record();
        return orNotFound(present.breakUnit(unit));
    }

    public int repair(int unit) {
        if (!isUnit(unit)) {
            return INVALID_ARGUMENT;
        }
        if (!present.units[unit].broken) {
            return NOT_POSSIBLE;
        }
        record();
        present.units[unit].broken = false;
        return present.brokenUnits();
    }

    public int unitInfo(int unit, int what) {
        if (!isUnit(unit)) {
            return INVALID_ARGUMENT;
        }
        Unit asked = present.units[unit];
        switch (what) {
            case 0: return asked.kind;
            case 1: return asked.capacity;
            case 2: return orNotFound(asked.holder);
            case 3: return oneIf(asked.broken);
            case 4: return asked.cleaning;
            case 5: return asked.worked;
            case 6: return oneIf(asked.isFreeAfter(0));
            default: return INVALID_ARGUMENT;
        }
    }

    public int shared(int piece) {
        if (!isPiece(piece)) {
            return INVALID_ARGUMENT;
        }
        return orNotFound(present.pieceHolders[piece]);
    }

    public int setCleaning(int ticks) {
        if (!isWithin(ticks, 0, MOST_CLEANING)) {
            return INVALID_ARGUMENT;
        }
        record();
        int previous = present.cleaning;
        present.cleaning = ticks;
        return previous;
    }

    // ---- recipes

    public int recipe(int recipe) {
        if (!isRecipe(recipe)) {
            return INVALID_ARGUMENT;
        }
        text.read();
        if (text.reason != FAULTLESS) {
            return NOT_POSSIBLE;
        }
        if (present.latestVersions[recipe] >= MOST_VERSIONS) {
            return LIMIT_REACHED;
        }
        record();
        present.latestVersions[recipe]++;
        int version = present.latestVersions[recipe];
        book.write(Book.pageOf(recipe, version), text);
        return version;
    }

    public int versions(int recipe) {
        return isRecipe(recipe) ? present.latestVersions[recipe] : INVALID_ARGUMENT;
    }

    public int phase(int recipe, int version, int phase, int what) {
        if (!isRecipe(recipe) || !isWithin(version, 1, present.latestVersions[recipe])) {
            return INVALID_ARGUMENT;
        }
        if (phase < 0 || !isWithin(what, 0, PHASE_VALUES - 1)) {
            return INVALID_ARGUMENT;
        }
        return orNotFound(book.find(Book.pageOf(recipe, version), phase, what));
    }

    // ---- batches

    public int batch(int recipe, int size, int priority, int before) {
        if (!isRecipe(recipe) || !isWithin(size, 1, HIGHEST_SIZE) || !isPriority(priority)) {
            return INVALID_ARGUMENT;
        }
        if (before != NONE && !isBatch(before)) {
            return INVALID_ARGUMENT;
        }
        if (present.latestVersions[recipe] == 0 || present.isGivenUp(before)) {
            return NOT_POSSIBLE;
        }
        if (present.batchCount >= MOST_BATCHES) {
            return LIMIT_REACHED;
        }
        record();
        return present.addBatch(recipe, size, priority, before);
    }

    public int start(int batch) {
        if (!isBatch(batch)) {
            return INVALID_ARGUMENT;
        }
        if (present.batches[batch].state != READY) {
            return NOT_POSSIBLE;
        }
        record();
        present.batches[batch].state = RUNNING;
        return present.batchesIn(RUNNING);
    }

    public int hold(int batch) {
        if (!isBatch(batch)) {
            return INVALID_ARGUMENT;
        }
        if (!present.batches[batch].isActive()) {
            return NOT_POSSIBLE;
        }
        record();
        present.holdBatch(batch);
        return present.batchesIn(HELD);
    }

    public int restart(int batch) {
        if (!isBatch(batch)) {
            return INVALID_ARGUMENT;
        }
        if (present.batches[batch].state != HELD || present.hasBrokenUnit(batch)) {
            return NOT_POSSIBLE;
        }
        record();
        present.restartBatch(batch);
        return present.ticksLeft(batch);
    }

    public int stop(int batch) {
        if (!isBatch(batch)) {
            return INVALID_ARGUMENT;
        }
        int state = present.batches[batch].state;
        if (state != RUNNING && state != HELD) {
            return NOT_POSSIBLE;
        }
        record();
        present.stopBatch(batch);
        return present.batches[batch].state;
    }

    public int abort(int batch) {
        if (!isBatch(batch)) {
            return INVALID_ARGUMENT;
        }
        if (present.batches[batch].isAtEnd()) {
            return NOT_POSSIBLE;
        }
        record();
        return present.abortWithFollowing(batch);
    }

    public int priority(int batch, int value) {
        if (!isBatch(batch) || !isPriority(value)) {
            return INVALID_ARGUMENT;
        }
        record();
        int previous = present.batches[batch].priority;
        present.batches[batch].priority = value;
        return previous;
    }

    public int batchInfo(int batch, int what) {
        if (!isBatch(batch)) {
            return INVALID_ARGUMENT;
        }
        Batch asked = present.batches[batch];
        switch (what) {
            case 0: return asked.recipe;
            case 1: return asked.version;
            case 2: return asked.size;
            case 3: return asked.priority;
            case 4: return orNotFound(asked.before);
            case 5: return asked.state;
            case 6: return asked.state == COMPLETE ? NOT_FOUND : asked.phase;
            case 7: return asked.state == COMPLETE ? NOT_FOUND : present.ticksLeft(batch);
            case 8: return orNotFound(asked.unit);
            case 9: return oneIf(asked.isUnderWay());
            case 10: return bitsOf(asked.amount);
            case 11: return (int) asked.amount;
            default: return INVALID_ARGUMENT;
        }
    }

    public int waits(int batch) {
        if (!isBatch(batch)) {
            return INVALID_ARGUMENT;
        }
        if (!present.batches[batch].isActive()) {
            return NOT_FOUND;
        }
        return present.reasonToWait(batch, 1);
    }

    public int inOrder(int place) {
        if (place < 0) {
            return INVALID_ARGUMENT;
        }
        present.arrange();
        return place < present.orderCount ? present.order[place] : NOT_FOUND;
    }

    // ---- time

    public int run(int ticks) {
        if (!isWithin(ticks, 1, MOST_TICKS_AT_ONCE)) {
            return INVALID_ARGUMENT;
        }
        if (present.ticks + ticks > MOST_TICKS) {
            return LIMIT_REACHED;
        }
        record();
        int completeBefore = present.batchesIn(COMPLETE);
        present.arrange();
        for (int tick = 0; tick < ticks; tick++) {
            present.passTick();
        }
        return present.batchesIn(COMPLETE) - completeBefore;
    }

    public int ticksTo(int batch) {
        if (!isBatch(batch)) {
            return INVALID_ARGUMENT;
        }
        if (present.batches[batch].state == COMPLETE) {
            return 0;
        }
        trial.copyFrom(present);
        trial.arrange();
        Batch tried = trial.batches[batch];
        for (int tick = 1; tick <= MOST_TICKS_AHEAD && tried.isActive(); tick++) {
            boolean moved = trial.passTick();
            if (tried.state == COMPLETE) {
                return tick;
            }
            // A tick in which nothing moves is followed by none but its like.
            if (!moved) {
                return NOT_FOUND;
            }
        }
        return NOT_FOUND;
    }

    public int count(int what) {
        switch (what) {
            case 0: return present.unitCount;
            case 1: return present.brokenUnits();
            case 2: return present.freeUnits();
            case 3: return present.batchCount;
            case 4: case 5: case 6: case 7: case 8: case 9: case 10:
                return present.batchesIn(what - 4);
            case 11: return present.ticks;
            case 12: return present.cleaning;
            case 13: return present.journal.length;
            case 14: return pastCount;
            case 15: return text.length;
            case 16: return present.workedTicks();
            case 17: return present.freePieces();
            default: return INVALID_ARGUMENT;
        }
    }

    public int event(int index, int what) {
        if (index < 0 || !isWithin(what, 0, 2)) {
            return INVALID_ARGUMENT;
        }
        return index < present.journal.length ? present.journal.find(index, what) : NOT_FOUND;
    }

    public int undo() {
        if (pastCount <= 0) {
            return NOT_POSSIBLE;
        }
        pastCount--;
        present.copyFrom(past[pastCount]);
        return pastCount;
    }

    // ---- texts

    public int type(int character) {
        if (!isWithin(character, 32, 126)) {
            return INVALID_ARGUMENT;
        }
        if (text.length >= MOST_CHARACTERS) {
            return LIMIT_REACHED;
        }
        text.append((char) character);
        return text.length;
    }

    public int clearText() {
        int previous = text.length;
        text.length = 0;
        return previous;
    }

    public int fault(int what) {
        if (!isWithin(what, 0, 1)) {
            return INVALID_ARGUMENT;
        }
        text.read();
        if (text.reason == FAULTLESS) {
            return NOT_FOUND;
        }
        return what == 0 ? text.place : text.reason;
    }

    // ---- what the calls share

    /** Keeps the present state ahead of a change; the rows are used again, so nothing is made. */
    private void record() {
        if (pastCount >= MOST_PAST_STATES) {
            State oldest = past[0];
            for (int place = 1; place < MOST_PAST_STATES; place++) {
                past[place - 1] = past[place];
            }
            past[MOST_PAST_STATES - 1] = oldest;
            pastCount = MOST_PAST_STATES - 1;
        }
        past[pastCount].copyFrom(present);
        pastCount++;
    }

    private boolean isUnit(int number) {
        return present.hasUnit(number);
    }

    private boolean isBatch(int number) {
        return present.hasBatch(number);
    }

    private static boolean isPiece(int number) {
        return isWithin(number, 0, PIECES - 1);
    }

    private static boolean isRecipe(int number) {
        return isWithin(number, 0, RECIPES - 1);
    }

    private static boolean isPriority(int value) {
        return isWithin(value, 0, HIGHEST_PRIORITY);
    }

    private static boolean isWithin(int value, int lowest, int highest) {
        return value >= lowest && value <= highest;
    }

    private static int orNotFound(int number) {
        return number == NONE ? NOT_FOUND : number;
    }

    private static int oneIf(boolean holds) {
        return holds ? 1 : 0;
    }

    /**
     * The bits of a float, found by halving and doubling, because LANGUAGE.md leaves no
     * Float.floatToIntBits. Amounts lie between 1e-16 and 10000, far from what has other bits
     * (zero, infinity, denormal numbers), so that every step here is exact.
     */
    private static int bitsOf(float amount) {
        float leading = amount;
        int exponent = 127;
        for (int step = 0; step < 127 && leading >= 2f; step++) {
            leading = leading / 2f;
            exponent++;
        }
        for (int step = 0; step < 127 && leading < 1f; step++) {
            leading = leading * 2f;
            exponent--;
        }
        int fraction = (int) ((leading - 1f) * 8388608f);
        return (exponent << 23) | fraction;
    }

    private static final class Unit {
        int kind;
        int capacity;
        int holder;
        int cleaning;
        int worked;
        boolean broken;

        void reset(int newKind, int newCapacity) {
            kind = newKind;
            capacity = newCapacity;
            holder = NONE;
            cleaning = 0;
            worked = 0;
            broken = false;
        }

        void copyFrom(Unit other) {
            kind = other.kind;
            capacity = other.capacity;
            holder = other.holder;
            cleaning = other.cleaning;
            worked = other.worked;
            broken = other.broken;
        }

        /** Whether it is free when so many more ticks have cleaned it. */
        boolean isFreeAfter(int ticks) {
            return holder == NONE && !broken && cleaning <= ticks;
        }
    }

    /**
     * The phases of all versions, a page for each. They need no place in the history: a number of
     * a version is given anew only when undo has taken it back, and then no state that is left
     * knows the old one.
     */
    private static final class Book {
        private final int[] lengths = new int[RECIPES * MOST_VERSIONS];
        private final int[][] values = new int[PHASE_VALUES][RECIPES * MOST_VERSIONS * MOST_PHASES];

        static int pageOf(int recipe, int version) {
            return recipe * MOST_VERSIONS + version - 1;
        }

        void write(int page, Text source) {
            lengths[page] = source.phaseCount;
            for (int what = 0; what < PHASE_VALUES; what++) {
                System.arraycopy(source.values[what], 0, values[what], page * MOST_PHASES, MOST_PHASES);
            }
        }

        /** The number of phases, 0 if there is no such page. */
        int lengthOf(int page) {
            return page >= 0 && page < lengths.length ? lengths[page] : 0;
        }

        /** What must be one of the values of a phase; NONE is found where there is no such phase. */
        int find(int page, int phase, int what) {
            if (page < 0 || page >= lengths.length || phase < 0 || phase >= lengths[page]) {
                return NONE;
            }
            return values[what][page * MOST_PHASES + phase];
        }
    }

    private static final class Batch {
        int recipe;
        int version;
        int size;
        int priority;
        int before;
        int state;
        int phase;
        int ticksDone;
        int unit;
        float amount;

        void reset(int newRecipe, int newVersion, int newSize, int newPriority, int newBefore) {
            recipe = newRecipe;
            version = newVersion;
            size = newSize;
            priority = newPriority;
            before = newBefore;
            state = READY;
            phase = 0;
            ticksDone = 0;
            unit = NONE;
            amount = (float) newSize;
        }

        void copyFrom(Batch other) {
            recipe = other.recipe;
            version = other.version;
            size = other.size;
            priority = other.priority;
            before = other.before;
            state = other.state;
            phase = other.phase;
            ticksDone = other.ticksDone;
            unit = other.unit;
            amount = other.amount;
        }

        boolean isActive() {
            return state == RUNNING || state == STOPPING;
        }

        boolean isAtEnd() {
            return state == STOPPED || state == ABORTED || state == COMPLETE;
        }

        boolean isUnderWay() {
            return ticksDone > 0;
        }

        boolean hasBegun() {
            return phase > 0 || ticksDone > 0;
        }
    }

    /** The latest events, in a ring: a new one takes the row of the oldest. */
    private static final class Journal {
        final int[] ticks = new int[MOST_EVENTS];
        final int[] batches = new int[MOST_EVENTS];
        final int[] happenings = new int[MOST_EVENTS];
        int length;
        int next;

        void add(int tick, int batch, int happening) {
            ticks[next] = tick;
            batches[next] = batch;
            happenings[next] = happening;
            next = (next + 1) % MOST_EVENTS;
            if (length < MOST_EVENTS) {
                length++;
            }
        }

        /** The index, counted back from the latest event, must be below the length. */
        int find(int index, int what) {
            int row = (next + MOST_EVENTS - 1 - index) % MOST_EVENTS;
            switch (what) {
                case 0: return ticks[row];
                case 1: return batches[row];
                default: return happenings[row];
            }
        }

        void copyFrom(Journal other) {
            System.arraycopy(other.ticks, 0, ticks, 0, MOST_EVENTS);
            System.arraycopy(other.batches, 0, batches, 0, MOST_EVENTS);
            System.arraycopy(other.happenings, 0, happenings, 0, MOST_EVENTS);
            length = other.length;
            next = other.next;
        }
    }

    /** Everything that a change records; numbers given to its methods have been looked at. */
    private static final class State {
        final Book book;
        final Unit[] units = new Unit[MOST_UNITS];
        final Batch[] batches = new Batch[MOST_BATCHES];
        final int[] pieceHolders = new int[PIECES];
        final int[] latestVersions = new int[RECIPES];
        final Journal journal = new Journal();
        final int[] order = new int[MOST_BATCHES];
        int unitCount;
        int batchCount;
        int orderCount;
        int ticks;
        int cleaning = CLEANING_AT_FIRST;

        State(Book newBook) {
            book = newBook;
            for (int number = 0; number < MOST_UNITS; number++) {
                units[number] = new Unit();
            }
            for (int number = 0; number < MOST_BATCHES; number++) {
                batches[number] = new Batch();
            }
            for (int piece = 0; piece < PIECES; piece++) {
                pieceHolders[piece] = NONE;
            }
        }

        /** The order is left out, since arrange finds it from the rest. */
        void copyFrom(State other) {
            unitCount = other.unitCount;
            for (int number = 0; number < unitCount; number++) {
                units[number].copyFrom(other.units[number]);
            }
            batchCount = other.batchCount;
            for (int number = 0; number < batchCount; number++) {
                batches[number].copyFrom(other.batches[number]);
            }
            System.arraycopy(other.pieceHolders, 0, pieceHolders, 0, PIECES);
            System.arraycopy(other.latestVersions, 0, latestVersions, 0, RECIPES);
            journal.copyFrom(other.journal);
            ticks = other.ticks;
            cleaning = other.cleaning;
        }

        // -- units and shared equipment

        boolean hasUnit(int number) {
            return number >= 0 && number < unitCount;
        }

        int addUnit(int kind, int capacity) {
            int number = unitCount;
            units[number].reset(kind, capacity);
            unitCount++;
            return number;
        }

        /** Returns the batch that is held by this, or NONE. */
        int breakUnit(int number) {
            units[number].broken = true;
            int holder = units[number].holder;
            if (!hasBatch(holder) || !batches[holder].isActive()) {
                return NONE;
            }
            holdBatch(holder);
            return holder;
        }

        int brokenUnits() {
            int found = 0;
            for (int number = 0; number < unitCount; number++) {
                if (units[number].broken) {
                    found++;
                }
            }
            return found;
        }

        int freeUnits() {
            int found = 0;
            for (int number = 0; number < unitCount; number++) {
                if (units[number].isFreeAfter(0)) {
                    found++;
                }
            }
            return found;
        }

        int workedTicks() {
            int sum = 0;
            for (int number = 0; number < unitCount; number++) {
                sum += units[number].worked;
            }
            return sum;
        }

        int freePieces() {
            int found = 0;
            for (int piece = 0; piece < PIECES; piece++) {
                if (pieceHolders[piece] == NONE) {
                    found++;
                }
            }
            return found;
        }

        /** The lowest unit for a batch that is free after so many more ticks of cleaning, or NONE. */
        private int unitFor(Batch batch, int cleaned) {
            int kind = valueOf(batch, KIND);
            for (int number = 0; number < unitCount; number++) {
                Unit unit = units[number];
                if (unit.kind == kind && unit.capacity >= batch.size && unit.isFreeAfter(cleaned)) {
                    return number;
                }
            }
            return NONE;
        }

        private void releaseUnit(Batch batch) {
            if (!hasUnit(batch.unit)) {
                return;
            }
            units[batch.unit].holder = NONE;
            units[batch.unit].cleaning = cleaning;
            batch.unit = NONE;
        }

        private void releasePieces(int number) {
            for (int piece = 0; piece < PIECES; piece++) {
                if (pieceHolders[piece] == number) {
                    pieceHolders[piece] = NONE;
                }
            }
        }

        // -- batches

        boolean hasBatch(int number) {
            return number >= 0 && number < batchCount;
        }

        int addBatch(int recipe, int size, int priority, int before) {
            int number = batchCount;
            batches[number].reset(recipe, latestVersions[recipe], size, priority, before);
            batchCount++;
            return number;
        }

        int batchesIn(int state) {
            int found = 0;
            for (int number = 0; number < batchCount; number++) {
                if (batches[number].state == state) {
                    found++;
                }
            }
            return found;
        }

        boolean isGivenUp(int number) {
            if (!hasBatch(number)) {
                return false;
            }
            return batches[number].state == STOPPED || batches[number].state == ABORTED;
        }

        boolean hasBrokenUnit(int number) {
            int unit = batches[number].unit;
            return hasUnit(unit) && units[unit].broken;
        }

        int ticksLeft(int number) {
            return valueOf(batches[number], DURATION) - batches[number].ticksDone;
        }

        /** Of its phase, so only for a batch that is not complete: it would be behind the last one. */
        private int valueOf(Batch batch, int what) {
            return book.find(Book.pageOf(batch.recipe, batch.version), batch.phase, what);
        }

        // -- commands

        void holdBatch(int number) {
            releasePieces(number);
            batches[number].state = HELD;
            journal.add(ticks, number, IS_HELD);
        }

        void restartBatch(int number) {
            Batch batch = batches[number];
            if (valueOf(batch, MARK) == 1) {
                batch.ticksDone = 0;
            }
            batch.state = RUNNING;
            journal.add(ticks, number, IS_RESTARTED);
        }

        void stopBatch(int number) {
            Batch batch = batches[number];
            if (batch.state == RUNNING && batch.isUnderWay()) {
                batch.state = STOPPING;
            } else {
                bringToEnd(number, STOPPED, IS_STOPPED);
            }
        }

        /**
         * One pass is enough, since a batch has a lower number than those that follow it. One that
         * was aborted earlier took along all that follow it, so who is left follows one of this call.
         */
        int abortWithFollowing(int first) {
            bringToEnd(first, ABORTED, IS_ABORTED);
            int aborted = 1;
            for (int number = first + 1; number < batchCount; number++) {
                int before = batches[number].before;
                if (hasBatch(before) && batches[before].state == ABORTED && !batches[number].isAtEnd()) {
                    bringToEnd(number, ABORTED, IS_ABORTED);
                    aborted++;
                }
            }
            return aborted;
        }

        private void bringToEnd(int number, int end, int happening) {
            releasePieces(number);
            releaseUnit(batches[number]);
            batches[number].state = end;
            journal.add(ticks, number, happening);
        }

        // -- ticks

        /** Finds the order that passTick goes by; no tick brings a batch into it. */
        void arrange() {
            orderCount = 0;
            for (int number = 0; number < batchCount; number++) {
                if (batches[number].isActive()) {
                    insertInOrder(number);
                }
            }
        }

        private void insertInOrder(int number) {
            int place = orderCount;
            while (place > 0 && batches[order[place - 1]].priority < batches[number].priority) {
                order[place] = order[place - 1];
                place--;
            }
            order[place] = number;
            orderCount++;
        }

        /** Returns whether anything but the number of ticks is another then. */
        boolean passTick() {
            boolean moved = cleanUnits();
            for (int place = 0; place < orderCount; place++) {
                int number = order[place];
                if (hasBatch(number) && batches[number].isActive() && moveOn(number)) {
                    moved = true;
                }
            }
            ticks++;
            return moved;
        }

        private boolean cleanUnits() {
            boolean moved = false;
            for (int number = 0; number < unitCount; number++) {
                if (units[number].cleaning > 0) {
                    units[number].cleaning--;
                    moved = true;
                }
            }
            return moved;
        }

        /** The reason for which an active batch waits, when so many more ticks have cleaned. */
        int reasonToWait(int number, int cleaned) {
            Batch batch = batches[number];
            if (!batch.hasBegun() && hasBatch(batch.before) && batches[batch.before].state != COMPLETE) {
                return WAITS_FOR_BATCH;
            }
            if (batch.unit == NONE && unitFor(batch, cleaned) == NONE) {
                return WAITS_FOR_UNIT;
            }
            int piece = valueOf(batch, PIECE);
            if (isPiece(piece) && pieceHolders[piece] != NONE && pieceHolders[piece] != number) {
                return WAITS_FOR_PIECE;
            }
            return WAITS_FOR_NOTHING;
        }

        /** A batch that waits for shared equipment gets its unit all the same. */
        private boolean moveOn(int number) {
            int reason = reasonToWait(number, 0);
            if (reason == WAITS_FOR_BATCH || reason == WAITS_FOR_UNIT) {
                return false;
            }
            boolean gotUnit = takeUnit(number);
            if (reason == WAITS_FOR_PIECE) {
                return gotUnit;
            }
            if (work(number)) {
                endPhase(number);
            }
            return true;
        }

        private boolean takeUnit(int number) {
            Batch batch = batches[number];
            if (batch.unit != NONE) {
                return false;
            }
            int unit = unitFor(batch, 0);
            if (unit == NONE) {
                return false;
            }
            batch.unit = unit;
            units[unit].holder = number;
            journal.add(ticks, number, GETS_UNIT);
            return true;
        }

        /** Does one tick of its phase and returns whether all of them are done then. */
        private boolean work(int number) {
            Batch batch = batches[number];
            if (!hasUnit(batch.unit)) {
                return false;
            }
            int piece = valueOf(batch, PIECE);
            if (isPiece(piece)) {
                pieceHolders[piece] = number;
            }
            batch.ticksDone++;
            units[batch.unit].worked++;
            return batch.ticksDone >= valueOf(batch, DURATION);
        }

        private void endPhase(int number) {
            Batch batch = batches[number];
            int kind = valueOf(batch, KIND);
            releasePieces(number);
            batch.amount = batch.amount * (float) valueOf(batch, PERCENT) / (float) 100;
            batch.phase++;
            batch.ticksDone = 0;
            journal.add(ticks, number, PHASE_ENDS);
            if (batch.phase >= book.lengthOf(Book.pageOf(batch.recipe, batch.version))) {
                bringToEnd(number, COMPLETE, IS_COMPLETE);
            } else if (batch.state == STOPPING) {
                bringToEnd(number, STOPPED, IS_STOPPED);
            } else if (valueOf(batch, KIND) != kind) {
                releaseUnit(batch);
            }
        }
    }

    /** The text, and what read finds in it: its phases, or its fault. */
    private static final class Text {
        private static final int END = -1;

        final char[] characters = new char[MOST_CHARACTERS];
        final int[][] values = new int[PHASE_VALUES][MOST_PHASES];
        int length;
        int phaseCount;
        int reason;
        int place;
        private int at;

        void append(char character) {
            if (length < MOST_CHARACTERS) {
                characters[length] = character;
                length++;
            }
        }

        void read() {
            at = 0;
            place = 0;
            reason = FAULTLESS;
            phaseCount = 0;
            readPhase();
            for (int phases = 0; phases < MOST_CHARACTERS && reason == FAULTLESS && at < length; phases++) {
                readPhase();
            }
        }

        private void readPhase() {
            int kind = kindOf(current());
            if (kind == NONE) {
                blameCurrent();
            } else if (phaseCount >= MOST_PHASES) {
                blame(at, TOO_MANY);
            } else {
                at++;
                values[KIND][phaseCount] = kind;
                readRest(phaseCount);
            }
        }

        private void readRest(int phase) {
            values[DURATION][phase] = readNumber(2, HIGHEST_DURATION);
            values[PIECE][phase] = passes('s') ? readPiece() : NONE;
            values[PERCENT][phase] = passes('y') ? readNumber(3, HIGHEST_PERCENT) : HIGHEST_PERCENT;
            values[MARK][phase] = oneIf(passes('a'));
            if (passes(';')) {
                phaseCount++;
            } else if (reason == FAULTLESS) {
                blameCurrent();
            }
        }

        private int readNumber(int mostDigits, int highest) {
            int first = at;
            int value = 0;
            for (int digits = 0; digits < mostDigits && isDigit(current()); digits++) {
                value = value * 10 + (current() - '0');
                at++;
            }
            if (at == first) {
                blameCurrent();
            } else if (value < 1 || value > highest) {
                blame(first, OUT_OF_RANGE);
            }
            return value;
        }

        private int readPiece() {
            int piece = current() - '0';
            if (piece < 0 || piece >= PIECES) {
                blameCurrent();
                return NONE;
            }
            at++;
            return piece;
        }

        /** Goes behind the character if it stands here; nothing is read any more behind a fault. */
        private boolean passes(char character) {
            if (reason != FAULTLESS || current() != character) {
                return false;
            }
            at++;
            return true;
        }

        private int current() {
            return at >= 0 && at < length && at < MOST_CHARACTERS ? characters[at] : END;
        }

        private void blameCurrent() {
            blame(at, at < length ? CANNOT_STAND : TOO_EARLY);
        }

        private void blame(int newPlace, int newReason) {
            place = newPlace;
            reason = newReason;
        }

        private static boolean isDigit(int character) {
            return character >= '0' && character <= '9';
        }

        private static int kindOf(int character) {
            switch (character) {
                case 'm': return 0;
                case 'r': return 1;
                case 'f': return 2;
                case 'p': return 3;
                default: return NONE;
            }
        }
    }
}
