/**
 * Sorts cards on four tapes: runs made by a small memory, laid out on three tapes by the
 * numbers that merging wants, merged tape by tape until one run is left.
 */
public final class ReelOffice {
    public static final int NONE = -1;

    private static final int MOST_CARDS = 150;
    private static final int FIELDS = 2;
    private static final int MOST_PARTS = 3;
    private static final int WAYS = 4;
    private static final int MOST_MEMORY = 8;
    private static final int USUAL_MEMORY = 4;
    private static final int TAPES = 4;
    private static final int SOURCES = 3;
    private static final int GOAL = 3;
    private static final int MOST_STEPS = 300;
    private static final int MOST_FAULTS = 20;
    private static final int MOST_TO_CUT = 1000;

    private static final int NOT_STARTED = 0;
    private static final int LAYING = 1;
    private static final int MERGING = 2;
    private static final int DONE = 3;
    private static final int WITHOUT_POWER = 4;

    private final Deck deck = new Deck();
    private final Store store;
    private final Store trial;
    private final Plan plan = new Plan();
    private final Writer writer = new Writer();
    private final Row row = new Row();
    private final Tape[] tapes = new Tape[TAPES];
    /** The tape that is source 0, 1, 2 and, last, the goal. */
    private final int[] tapeOfRole = new int[TAPES];
    /** How many cards a merging step has read from each source's first run, and how many that has. */
    private final int[] cardsRead = new int[SOURCES];
    private final int[] cardsToRead = new int[SOURCES];
    private int stage = NOT_STARTED;
    private int brokenSteps = 0;

    public ReelOffice(int memory) {
        int room = memory >= 1 && memory <= MOST_MEMORY ? memory : USUAL_MEMORY;
        store = new Store(room);
        trial = new Store(room);
        for (int tape = 0; tape < TAPES; tape++) {
            tapes[tape] = new Tape();
        }
    }

    public int card(int a, int b) throws IllegalStateException {
        if (stage != NOT_STARTED || deck.isFull()) {
            throw new IllegalStateException();
        }
        return deck.addCard(a, b);
    }

    public int part(int field, int way) throws IllegalArgumentException, IllegalStateException {
        if (!isField(field) || way < 0 || way >= WAYS) {
            throw new IllegalArgumentException();
        }
        if (stage != NOT_STARTED || deck.keyIsFull()) {
            throw new IllegalStateException();
        }
        return deck.addPart(field, way);
    }

    public void start() throws IllegalStateException {
        if (stage != NOT_STARTED) {
            throw new IllegalStateException();
        }
        for (int tape = 0; tape < TAPES; tape++) {
            tapeOfRole[tape] = tape;
        }
        plan.begin(tapes);
        store.fillFrom(deck);
        stage = store.isEmpty() ? DONE : LAYING;
    }

    public int clear() {
        int cards = deck.cardCount();
        deck.forgetAll();
        store.forgetAll();
        for (int tape = 0; tape < TAPES; tape++) {
            tapes[tape].forgetAll();
        }
        writer.forgetAll();
        stage = NOT_STARTED;
        brokenSteps = 0;
        return cards;
    }

    public int step(int n) throws IllegalArgumentException, IllegalStateException {
        if (n < 1 || n > MOST_STEPS) {
            throw new IllegalArgumentException();
        }
        if (stage == NOT_STARTED || !writer.hasPower()) {
            throw new IllegalStateException();
        }
        for (int made = 0; made < n; made++) {
            if (stage == DONE) {
                return made;
            }
            boolean whole = stage == LAYING ? layRun() : mergeRuns();
            if (!whole) {
                brokenSteps++;
                return made;
            }
        }
        return n;
    }

    public int fault(int tape, int n) throws IllegalArgumentException {
        if (!isTape(tape) || n < 0 || n > MOST_FAULTS) {
            throw new IllegalArgumentException();
        }
        return tapes[tape].replaceFaults(n);
    }

    public boolean cutAfter(int n) {
        if (n < 0 || n > MOST_TO_CUT || !writer.hasPower()) {
            return false;
        }
        writer.planCut(n);
        return true;
    }

    public boolean resume() {
        if (writer.hasPower()) {
            return false;
        }
        writer.switchOn();
        return true;
    }

    public int phase() {
        return writer.hasPower() ? stage : stage + WITHOUT_POWER;
    }

    public int level() {
        return stage == NOT_STARTED || deck.cardCount() == 0 ? 0 : plan.height();
    }

    public int runs(int tape) {
        return isTape(tape) ? tapes[tape].runCount() : NONE;
    }

    public int dummies(int tape) {
        return isTape(tape) ? tapes[tape].dummyCount() : NONE;
    }

    public int role(int tape) {
        if (stage == NOT_STARTED) {
            return NONE;
        }
        for (int role = 0; role < TAPES; role++) {
            if (tapeOfRole[role] == tape) {
                return role;
            }
        }
        return NONE;
    }

    public int length(int tape, int r) {
        return isTape(tape) ? tapes[tape].runLength(r) : NONE;
    }

    public int at(int tape, int r, int i) {
        return isTape(tape) ? tapes[tape].cardOfRun(r, i) : NONE;
    }

    public boolean memory(int card) {
        return store.holds(card);
    }

    public int written() {
        return writer.total();
    }

    public int broken() {
        return brokenSteps;
    }

    public int sorted(int i) {
        return stage == DONE ? tapeInRole(0).cardOfRun(0, i) : NONE;
    }

    public int compare(int x, int y) {
        if (x == y || !deck.hasCard(x) || !deck.hasCard(y)) {
            return 0;
        }
        return deck.comesBefore(x, y) ? -1 : 1;
    }

    public int field(int card, int field) {
        return deck.value(card, field);
    }

    private static boolean isTape(int tape) {
        return tape >= 0 && tape < TAPES;
    }

    private static boolean isField(int field) {
        return field >= 0 && field < FIELDS;
    }

    private Tape tapeInRole(int role) {
        return tapes[tapeOfRole[role]];
    }

    /** Works on a copy of memory, so that a step that is broken off leaves memory as it was. */
    private boolean layRun() {
        trial.copyFrom(store);
        if (!writeRunFromTrial()) {
            return false;
        }
        trial.turnToNextRun();
        store.copyFrom(trial);
        Tape tape = tapes[plan.placeOfNextRun(tapes)];
        tape.addDummies(-1);
        tape.append(row);
        if (store.isEmpty()) {
            stage = MERGING;
        }
        return true;
    }

    private boolean writeRunFromTrial() {
        row.forgetAll();
        for (int n = 0; n < MOST_CARDS; n++) {
            int slot = trial.slotOfFirst(deck);
            if (slot == NONE) {
                return true;
            }
            if (!writer.writeCard()) {
                return false;
            }
            row.add(trial.cardIn(slot));
            trial.replaceCard(slot, deck);
        }
        return true;
    }

    /** Changes tapes only when the whole run is written, so that a broken step leaves them alone. */
    private boolean mergeRuns() {
        if (everySourceHasDummy()) {
            tapeInRole(GOAL).addDummies(1);
        } else {
            if (!sourcesCanBeRead() || !writeMergedRun()) {
                return false;
            }
            tapeInRole(GOAL).append(row);
        }
        takeFromSources();
        if (tapeInRole(SOURCES - 1).isBare()) {
            endLevel();
        }
        return true;
    }

    private boolean everySourceHasDummy() {
        for (int role = 0; role < SOURCES; role++) {
            if (!tapeInRole(role).hasDummy()) {
                return false;
            }
        }
        return true;
    }

    /** Asks every source even after one has failed: each fault counts. */
    private boolean sourcesCanBeRead() {
        boolean readable = true;
        for (int role = 0; role < SOURCES; role++) {
            Tape source = tapeInRole(role);
            if (!source.hasDummy() && source.useFault()) {
                readable = false;
            }
        }
        return readable;
    }

    private boolean writeMergedRun() {
        row.forgetAll();
        for (int role = 0; role < SOURCES; role++) {
            Tape source = tapeInRole(role);
            cardsRead[role] = 0;
            cardsToRead[role] = source.hasDummy() ? 0 : source.runLength(0);
        }
        for (int n = 0; n < MOST_CARDS; n++) {
            int role = sourceOfFirstCard();
            if (role == NONE) {
                return true;
            }
            if (!writer.writeCard()) {
                return false;
            }
            row.add(nextCardOf(role));
            cardsRead[role]++;
        }
        return true;
    }

    private int sourceOfFirstCard() {
        int best = NONE;
        for (int role = 0; role < SOURCES; role++) {
            if (cardsRead[role] < cardsToRead[role]
                    && (best == NONE || deck.comesBefore(nextCardOf(role), nextCardOf(best)))) {
                best = role;
            }
        }
        return best;
    }

    private int nextCardOf(int role) {
        return tapeInRole(role).cardOfRun(0, cardsRead[role]);
    }

    private void takeFromSources() {
        for (int role = 0; role < SOURCES; role++) {
            Tape source = tapeInRole(role);
            if (source.hasDummy()) {
                source.addDummies(-1);
            } else {
                source.takeFirstRun();
            }
        }
    }

    private void endLevel() {
        int goal = tapeOfRole[GOAL];
        for (int role = GOAL; role > 0; role--) {
            tapeOfRole[role] = tapeOfRole[role - 1];
        }
        tapeOfRole[0] = goal;
        plan.goDown();
        if (plan.height() == 0) {
            stage = DONE;
        }
    }

    /** The cards that were put in, and the key that orders them. */
    private static final class Deck {
        private final int[][] values = new int[FIELDS][MOST_CARDS];
        private final int[] partFields = new int[MOST_PARTS];
        private final int[] partWays = new int[MOST_PARTS];
        private int cards = 0;
        private int parts = 0;

        void forgetAll() {
            cards = 0;
            parts = 0;
        }

        int cardCount() {
            return cards;
        }

        boolean isFull() {
            return cards >= MOST_CARDS;
        }

        boolean keyIsFull() {
            return parts >= MOST_PARTS;
        }

        boolean hasCard(int card) {
            return card >= 0 && card < cards;
        }

        int addCard(int a, int b) {
            if (isFull()) {
                return NONE;
            }
            values[0][cards] = a;
            values[1][cards] = b;
            cards++;
            return cards - 1;
        }

        int addPart(int field, int way) {
            if (!keyIsFull()) {
                partFields[parts] = field;
                partWays[parts] = way;
                parts++;
            }
            return parts;
        }

        int value(int card, int field) {
            return hasCard(card) && isField(field) ? values[field][card] : 0;
        }

        boolean comesBefore(int x, int y) {
            for (int part = 0; part < parts; part++) {
                long rankOfX = rank(partWays[part], value(x, partFields[part]));
                long rankOfY = rank(partWays[part], value(y, partFields[part]));
                if (rankOfX != rankOfY) {
                    return rankOfX < rankOfY;
                }
            }
            return x < y;
        }

        /** A long, since neither the plain nor the turned value of every int is an int. */
        private static long rank(int way, int value) {
            long wide = value;
            switch (way) {
                case 1:
                    return -wide;
                case 2:
                    return wide & 0xFFFFFFFFL;
                case 3:
                    return wide < 0 ? -wide : wide;
                default:
                    return wide;
            }
        }
    }

    /** The cards in memory, each for the present run or for the next one. */
    private static final class Store {
        private final int room;
        private final int[] held = new int[MOST_MEMORY];
        private final boolean[] waits = new boolean[MOST_MEMORY];
        private int size = 0;
        private int upcoming = 0;

        Store(int room) {
            this.room = room;
        }

        void forgetAll() {
            size = 0;
            upcoming = 0;
        }

        boolean isEmpty() {
            return size == 0;
        }

        void fillFrom(Deck deck) {
            size = Math.min(room, deck.cardCount());
            upcoming = size;
            for (int slot = 0; slot < size; slot++) {
                held[slot] = slot;
                waits[slot] = false;
            }
        }

        void copyFrom(Store other) {
            size = other.size;
            upcoming = other.upcoming;
            for (int slot = 0; slot < size; slot++) {
                held[slot] = other.held[slot];
                waits[slot] = other.waits[slot];
            }
        }

        boolean holds(int card) {
            for (int slot = 0; slot < size; slot++) {
                if (held[slot] == card) {
                    return true;
                }
            }
            return false;
        }

        int cardIn(int slot) {
            return slot >= 0 && slot < size ? held[slot] : NONE;
        }

        int slotOfFirst(Deck deck) {
            int best = NONE;
            for (int slot = 0; slot < size; slot++) {
                if (!waits[slot] && (best == NONE || deck.comesBefore(held[slot], held[best]))) {
                    best = slot;
                }
            }
            return best;
        }

        void replaceCard(int slot, Deck deck) {
            if (slot < 0 || slot >= size) {
                return;
            }
            if (deck.hasCard(upcoming)) {
                waits[slot] = deck.comesBefore(upcoming, held[slot]);
                held[slot] = upcoming;
                upcoming++;
            } else {
                size--;
                held[slot] = held[size];
                waits[slot] = waits[size];
            }
        }

        void turnToNextRun() {
            for (int slot = 0; slot < size; slot++) {
                waits[slot] = false;
            }
        }
    }

    /** The run that a step is making. */
    private static final class Row {
        private final int[] cards = new int[MOST_CARDS];
        private int size = 0;

        void forgetAll() {
            size = 0;
        }

        void add(int card) {
            if (size < MOST_CARDS) {
                cards[size] = card;
                size++;
            }
        }
    }

    /** The runs of one tape, one behind the other, with its dummies and the faults to come. */
    private static final class Tape {
        private final int[] cards = new int[MOST_CARDS];
        private final int[] lengths = new int[MOST_CARDS];
        private int cardsUsed = 0;
        private int runsUsed = 0;
        private int blanks = 0;
        private int faults = 0;

        void forgetAll() {
            cardsUsed = 0;
            runsUsed = 0;
            blanks = 0;
            faults = 0;
        }

        int runCount() {
            return runsUsed;
        }

        int dummyCount() {
            return blanks;
        }

        boolean hasDummy() {
            return blanks > 0;
        }

        boolean isBare() {
            return runsUsed == 0 && blanks == 0;
        }

        void addDummies(int more) {
            blanks += more;
        }

        int replaceFaults(int n) {
            int before = faults;
            faults = n;
            return before;
        }

        boolean useFault() {
            if (faults == 0) {
                return false;
            }
            faults--;
            return true;
        }

        int runLength(int r) {
            return r >= 0 && r < runsUsed ? lengths[r] : NONE;
        }

        int cardOfRun(int r, int i) {
            if (i < 0 || i >= runLength(r)) {
                return NONE;
            }
            int first = 0;
            for (int before = 0; before < r; before++) {
                first += lengths[before];
            }
            return cards[first + i];
        }

        void append(Row row) {
            if (runsUsed >= MOST_CARDS || row.size > MOST_CARDS - cardsUsed) {
                return;
            }
            System.arraycopy(row.cards, 0, cards, cardsUsed, row.size);
            cardsUsed += row.size;
            lengths[runsUsed] = row.size;
            runsUsed++;
        }

        void takeFirstRun() {
            if (runsUsed == 0) {
                return;
            }
            int taken = lengths[0];
            cardsUsed -= taken;
            System.arraycopy(cards, taken, cards, 0, cardsUsed);
            runsUsed--;
            System.arraycopy(lengths, 1, lengths, 0, runsUsed);
        }
    }

    /** How many runs merging wants on each tape, and where the next run goes. */
    private static final class Plan {
        private final int[] numbers = new int[SOURCES];
        private int steps = 0;
        private int place = 0;

        void begin(Tape[] tapes) {
            for (int tape = 0; tape < SOURCES; tape++) {
                numbers[tape] = 1;
                tapes[tape].addDummies(1);
            }
            steps = 1;
            place = 0;
        }

        int height() {
            return steps;
        }

        void goDown() {
            steps--;
        }

        /** Before the first run, too: with as many dummies on each tape, place 0 is found again. */
        int placeOfNextRun(Tape[] tapes) {
            int here = tapes[place].dummyCount();
            if (place + 1 < SOURCES && here < tapes[place + 1].dummyCount()) {
                place++;
                return place;
            }
            if (here == 0) {
                goUp(tapes);
            }
            place = 0;
            return place;
        }

        private void goUp(Tape[] tapes) {
            int x = numbers[0];
            int y = numbers[1];
            int z = numbers[2];
            steps++;
            growTo(0, x + y, tapes);
            growTo(1, x + z, tapes);
            growTo(2, x, tapes);
        }

        private void growTo(int tape, int number, Tape[] tapes) {
            tapes[tape].addDummies(number - numbers[tape]);
            numbers[tape] = number;
        }
    }

    /** Counts what is written, and cuts the power when it is time. */
    private static final class Writer {
        private int cardsWritten = 0;
        private boolean power = true;
        private boolean cutPlanned = false;
        private int cardsToCut = 0;

        void forgetAll() {
            cardsWritten = 0;
            power = true;
            cutPlanned = false;
        }

        int total() {
            return cardsWritten;
        }

        boolean hasPower() {
            return power;
        }

        void switchOn() {
            power = true;
        }

        void planCut(int n) {
            cutPlanned = true;
            cardsToCut = n;
        }

        /** The cut comes before the next card, not behind the last one: answers false then. */
        boolean writeCard() {
            if (cutPlanned && cardsToCut == 0) {
                cutPlanned = false;
                power = false;
                return false;
            }
            if (cutPlanned) {
                cardsToCut--;
            }
            cardsWritten++;
            return true;
        }
    }
}
