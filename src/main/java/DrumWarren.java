import java.util.NoSuchElementException;

/** A warren in which hares talk by drumming; ../shared/DOC.md says what each call promises. */
public final class DrumWarren {
    private static final int MAX_CHAMBERS = 8;
    private static final int PAIRS = MAX_CHAMBERS * MAX_CHAMBERS;
    private static final int MAX_DELAY = 9;
    private static final int MAX_HARES = 6;
    private static final int MAX_MESSAGES = 8;
    private static final int MAX_NUMBER = 15;
    private static final int MAX_CODE = 31;
    private static final int BEATS = 5;
    private static final int MAX_TIMES_LOST = 3;
    private static final int MAX_TICKS_AT_ONCE = 40;
    private static final int MAX_TICKS_FORESEEN = 60;
    private static final int TICKS_REMEMBERED = 20;
    private static final int TICKS_AHEAD = 80;
    private static final int MAX_UNDO = 8;
    private static final int INPUT_CAPACITY = 60;
    private static final int MAX_ARGUMENTS = 3;

    // The shortest command and its semicolon take 7 characters, so that the
    // input holds at most 8 whole commands and the beginning of a ninth.
    private static final int MAX_COMMANDS = 9;

    // A power of two above the 101 ticks that thumpsHeard can be asked for,
    // so that a tick finds its slot by a mask, negative ticks too.
    private static final int TICK_SLOTS = 128;

    // Above the longest way of 7 tunnels, and small enough to be added to itself.
    private static final int NO_WAY = 1000;

    private static final int NONE = -1;

    private static final char WAITS = 'w';
    private static final char DRUMMED = 'd';
    private static final char DELIVERED = 'r';
    private static final char LOST = 'l';

    private static final CommandKind[] COMMAND_KINDS = CommandKind.values();

    private final State now = new State();
    private final State trial = new State();
    private final State saved = new State();
    private final History history = new History();
    private final CommandReader reader = new CommandReader();
    private final StringBuilder output = new StringBuilder();
    private boolean hasSaved;
    private int keptErrorPosition = NONE;
    private int keptFailedCommand = NONE;

    public DrumWarren() {
    }

    // Chambers and tunnels

    public int addChamber() throws IllegalStateException {
        history.prepare(now);
        refuse(now.burrow.digChamber());
        history.keep();
        return now.burrow.chambers - 1;
    }

    public int addTunnel(int first, int second, int delay)
            throws IndexOutOfBoundsException, IllegalArgumentException, IllegalStateException {
        history.prepare(now);
        refuse(now.burrow.digTunnel(first, second, delay));
        history.keep();
        return now.burrow.tunnels;
    }

    public int removeTunnel(int first, int second)
            throws IndexOutOfBoundsException, NoSuchElementException {
        history.prepare(now);
        int delay = now.burrow.delayOfTunnel(first, second);
        refuse(now.burrow.fillTunnel(first, second));
        history.keep();
        return delay;
    }

    public int chamberCount() {
        return now.burrow.chambers;
    }

    public int tunnelCount() {
        return now.burrow.tunnels;
    }

    public int tunnelDelay(int first, int second)
            throws IndexOutOfBoundsException, NoSuchElementException {
        checkChamber(first);
        checkChamber(second);
        int delay = now.burrow.delayOfTunnel(first, second);
        if (delay == 0) {
            throw new NoSuchElementException("no tunnel joins these chambers");
        }
        return delay;
    }

    public int shortestDelay(int from, int to)
            throws IndexOutOfBoundsException, NoSuchElementException {
        checkChamber(from);
        checkChamber(to);
        return checkedWay(now.burrow.delayOfWay(from, to));
    }

    public int shortestDelayBySearch(int from, int to)
            throws IndexOutOfBoundsException, NoSuchElementException {
        checkChamber(from);
        checkChamber(to);
        return checkedWay(now.burrow.searchWay(from, to));
    }

    public float loudness(int from, int to) throws IndexOutOfBoundsException {
        checkChamber(from);
        checkChamber(to);
        return loudnessAfter(now.burrow.delayOfWay(from, to));
    }

    public int loudnessBits(int from, int to) throws IndexOutOfBoundsException {
        checkChamber(from);
        checkChamber(to);
        return bitsOf(loudnessAfter(now.burrow.delayOfWay(from, to)));
    }

    // Hares

    public int addHare(int chamber) throws IndexOutOfBoundsException, IllegalStateException {
        history.prepare(now);
        refuse(now.settle(chamber));
        history.keep();
        return now.hareCount - 1;
    }

    public int move(int hare, int chamber)
            throws IndexOutOfBoundsException, IllegalStateException {
        history.prepare(now);
        int before = now.placeOf(hare);
        refuse(now.go(hare, chamber));
        history.keep();
        return before;
    }

    public boolean setListening(int hare, boolean listens) throws IndexOutOfBoundsException {
        history.prepare(now);
        boolean before = now.listens(hare);
        refuse(now.letListen(hare, listens));
        history.keep();
        return before;
    }

    public int hareCount() {
        return now.hareCount;
    }

    public int chamberOf(int hare) throws IndexOutOfBoundsException {
        checkHare(hare);
        return now.placeOf(hare);
    }

    public boolean isListening(int hare) throws IndexOutOfBoundsException {
        checkHare(hare);
        return now.listens(hare);
    }

    public boolean isDrumming(int hare) throws IndexOutOfBoundsException {
        checkHare(hare);
        return now.drums(hare);
    }

    public int received(int hare) throws IndexOutOfBoundsException {
        checkHare(hare);
        return now.receivedBy(hare);
    }

    public int latestNumber(int hare) throws IndexOutOfBoundsException, NoSuchElementException {
        checkHare(hare);
        int number = now.latestOf(hare);
        if (number == NONE) {
            throw new NoSuchElementException("no message was delivered to this hare");
        }
        return number;
    }

    public int hareByReceived(int rank) throws NoSuchElementException {
        for (int hare = 0; hare < now.hareCount; hare++) {
            if (now.haresAheadOf(hare) == rank) {
                return hare;
            }
        }
        throw new NoSuchElementException("no such rank");
    }

    // Messages

    public int say(int sender, int receiver, int number)
            throws IndexOutOfBoundsException, IllegalArgumentException, IllegalStateException {
        history.prepare(now);
        int id = now.nextId;
        refuse(now.addMessage(sender, receiver, number));
        history.keep();
        return id;
    }

    public int forget(int message) throws NoSuchElementException, IllegalStateException {
        history.prepare(now);
        refuse(now.dropMessage(message));
        history.keep();
        return now.messageCount;
    }

    public int messageCount() {
        return now.messageCount;
    }

    public int message(int position) throws IndexOutOfBoundsException {
        if (position < 0 || position >= now.messageCount) {
            throw new IndexOutOfBoundsException("no such position");
        }
        return now.messages[position].id;
    }

    public int sender(int message) throws NoSuchElementException {
        return existing(message).sender;
    }

    public int receiver(int message) throws NoSuchElementException {
        return existing(message).receiver;
    }

    public char state(int message) throws NoSuchElementException {
        return existing(message).state;
    }

    public int timesLost(int message) throws NoSuchElementException {
        return existing(message).timesLost;
    }

    public int beatsDrummed(int message) throws NoSuchElementException {
        return existing(message).beats;
    }

    public boolean isThump(int number, int beat)
            throws IllegalArgumentException, IndexOutOfBoundsException {
        checkNumber(number);
        if (beat < 0 || beat >= BEATS) {
            throw new IndexOutOfBoundsException("a beat is from 0 to 4");
        }
        return isOne(codeOf(number), beat);
    }

    public int decode(int code) throws IllegalArgumentException, NoSuchElementException {
        if (code < 0 || code > MAX_CODE) {
            throw new IllegalArgumentException("a code is from 0 to 31");
        }
        int number = numberOf(code);
        if (number == NONE) {
            throw new NoSuchElementException("the number of beats that are 1 is odd");
        }
        return number;
    }

    public int ticksUntilDelivery(int message)
            throws NoSuchElementException, IllegalStateException, UnsupportedOperationException {
        char state = existing(message).state;
        if (state == DELIVERED || state == LOST) {
            throw new IllegalStateException("the message was delivered or is lost");
        }
        trial.copyFrom(now);
        int position = trial.positionOf(message);
        for (int passed = 1; passed <= MAX_TICKS_FORESEEN; passed++) {
            trial.passOneTick();
            if (trial.isDelivered(position)) {
                return passed;
            }
        }
        throw new UnsupportedOperationException("the message is not delivered within 60 ticks");
    }

    // Ticks and thumps

    public int passTicks(int ticks) throws IllegalArgumentException {
        history.prepare(now);
        int before = now.deliveries;
        refuse(now.letTicksPass(ticks));
        history.keep();
        return now.deliveries - before;
    }

    public int ticks() {
        return now.ticks;
    }

    public int thumpsHeard(int chamber, int tick)
            throws IndexOutOfBoundsException, IllegalArgumentException {
        checkChamber(chamber);
        if (tick < now.ticks - TICKS_REMEMBERED || tick > now.ticks + TICKS_AHEAD) {
            throw new IllegalArgumentException("the tick is too long ago or too far ahead");
        }
        return now.air.thumpsIn(chamber, tick);
    }

    public int thumpsDrummed() {
        return now.thumps;
    }

    public int deliveries() {
        return now.deliveries;
    }

    public int losses() {
        return now.losses;
    }

    // Statistics and output

    public float meanLoudness(int to) throws IndexOutOfBoundsException {
        checkChamber(to);
        int chambers = now.burrow.chambers;
        float sum = 0.0f;
        for (int from = 0; from < chambers; from++) {
            sum = sum + loudnessAfter(now.burrow.delayOfWay(from, to));
        }
        return sum / (float) chambers;
    }

    public double deliveryFraction() throws ArithmeticException {
        int decided = now.deliveries + now.losses;
        if (decided == 0) {
            throw new ArithmeticException("there were neither deliveries nor losses");
        }
        return (double) now.deliveries / (double) decided;
    }

    public int writeMessage(int message) throws NoSuchElementException {
        Message written = existing(message);
        output.setLength(0);
        output.append(written.id).append(':').append(written.sender).append('>');
        output.append(written.receiver).append('=').append(written.number).append(written.state);
        for (int times = 0; times < written.timesLost; times++) {
            output.append('!');
        }
        return output.length();
    }

    public int writeCode(int number) throws IllegalArgumentException {
        checkNumber(number);
        int code = codeOf(number);
        output.setLength(0);
        for (int beat = 0; beat < BEATS; beat++) {
            output.append(isOne(code, beat) ? 'x' : '.');
        }
        return output.length();
    }

    public char outputCharacter(int index) throws IndexOutOfBoundsException {
        if (index < 0 || index >= output.length()) {
            throw new IndexOutOfBoundsException("no such character");
        }
        return output.charAt(index);
    }

    public boolean isConsistent() {
        return now.burrow.waysAgree() && codesDecode() && now.isDrummedByOneEach();
    }

    // Commands, undo and saved state

    public int feed(char character) throws IllegalStateException {
        if (!reader.take(character)) {
            throw new IllegalStateException("the input buffer is full");
        }
        return reader.length;
    }

    public int execute() throws IllegalArgumentException, UnsupportedOperationException {
        reader.readText();
        reader.length = 0;
        if (reader.errorPosition != NONE) {
            keptErrorPosition = reader.errorPosition;
            throw new IllegalArgumentException("the text is malformed");
        }
        history.prepare(now);
        for (int index = 0; index < reader.commandCount; index++) {
            if (perform(reader.commands[index]) != Fault.NONE) {
                history.copyPreparedTo(now);
                keptFailedCommand = index;
                throw new UnsupportedOperationException("a command fails");
            }
        }
        history.keep();
        return reader.commandCount;
    }

    public int errorPosition() throws NoSuchElementException {
        if (keptErrorPosition == NONE) {
            throw new NoSuchElementException("no text was malformed");
        }
        return keptErrorPosition;
    }

    public int failedCommand() throws NoSuchElementException {
        if (keptFailedCommand == NONE) {
            throw new NoSuchElementException("no command failed");
        }
        return keptFailedCommand;
    }

    public int undo() throws IllegalStateException {
        if (!history.takeBack(now)) {
            throw new IllegalStateException("no change can be undone");
        }
        return history.count;
    }

    public int undoCount() {
        return history.count;
    }

    public int save() {
        saved.copyFrom(now);
        hasSaved = true;
        return saved.hareCount;
    }

    public int restore() throws IllegalStateException {
        if (!hasSaved) {
            throw new IllegalStateException("nothing was saved");
        }
        now.copyFrom(saved);
        history.count = 0;
        return now.hareCount;
    }

    // Checks

    private static void refuse(Fault fault) {
        switch (fault) {
            case NO_SUCH_INDEX:
                throw new IndexOutOfBoundsException("no such chamber or hare");
            case NO_SUCH_ELEMENT:
                throw new NoSuchElementException("no such tunnel or message");
            case BAD_ARGUMENT:
                throw new IllegalArgumentException("an argument is not allowed");
            case BAD_STATE:
                throw new IllegalStateException("the warren does not allow this now");
            default:
                break;
        }
    }

    private void checkChamber(int chamber) {
        if (!now.burrow.has(chamber)) {
            throw new IndexOutOfBoundsException("no such chamber");
        }
    }

    private void checkHare(int hare) {
        if (!now.hasHare(hare)) {
            throw new IndexOutOfBoundsException("no such hare");
        }
    }

    private static void checkNumber(int number) {
        if (!isNumber(number)) {
            throw new IllegalArgumentException("a number is from 0 to 15");
        }
    }

    private static int checkedWay(int delay) {
        if (delay == NO_WAY) {
            throw new NoSuchElementException("there is no way");
        }
        return delay;
    }

    private Message existing(int id) {
        int position = now.positionOf(id);
        if (position == NONE) {
            throw new NoSuchElementException("no such message");
        }
        return now.messages[position];
    }

    // Codes and loudness

    private static boolean isNumber(int number) {
        return number >= 0 && number <= MAX_NUMBER;
    }

    private static int codeOf(int number) {
        return (number << 1) | (Integer.bitCount(number) & 1);
    }

    private static int numberOf(int code) {
        return (Integer.bitCount(code) & 1) == 0 ? code >> 1 : NONE;
    }

    private static boolean isOne(int code, int beat) {
        return ((code >> (BEATS - 1 - beat)) & 1) == 1;
    }

    private static boolean codesDecode() {
        for (int number = 0; number <= MAX_NUMBER; number++) {
            if (numberOf(codeOf(number)) != number) {
                return false;
            }
        }
        return true;
    }

    private static float loudnessAfter(int delay) {
        return delay == NO_WAY ? 0.0f : 1.0f / (1.0f + (float) delay);
    }

    // Float.floatToIntBits is outside LANGUAGE.md. A loudness is 0 or from 1/64
    // to 1, so that doubling it to 1 or above and taking its fraction is exact.
    private static int bitsOf(float loudness) {
        if (loudness <= 0.0f) {
            return 0;
        }
        float scaled = loudness;
        int exponent = 127;
        for (int doublings = 0; doublings < 126 && scaled < 1.0f; doublings++) {
            scaled = scaled * 2.0f;
            exponent--;
        }
        return (exponent << 23) + (int) ((scaled - 1.0f) * 8388608.0f);
    }

    private Fault perform(Command command) {
        int first = command.arguments[0];
        int second = command.arguments[1];
        int third = command.arguments[2];
        switch (command.kind) {
            case CHAMBER:
                return now.burrow.digChamber();
            case TUNNEL:
                return now.burrow.digTunnel(first, second, third);
            case HARE:
                return now.settle(first);
            case SAY:
                return now.addMessage(first, second, third);
            case LISTEN:
                return now.letListen(first, true);
            case SLEEP:
                return now.letListen(first, false);
            case GO:
                return now.go(first, second);
            case TICK:
                return now.letTicksPass(first);
            default:
                return Fault.BAD_ARGUMENT;
        }
    }

    /**
     * Why a change is refused. Changes answer this instead of throwing, because
     * the commands of a text need the refusal and not the exception.
     */
    private enum Fault {
        NONE, NO_SUCH_INDEX, NO_SUCH_ELEMENT, BAD_ARGUMENT, BAD_STATE
    }

    /** The chambers and the tunnels. */
    private static final class Burrow {
        int chambers;
        int tunnels;
        // By pairs of chambers, both ways round; 0 stands for no tunnel.
        final int[] tunnelDelays = new int[PAIRS];
        // Kept with the tunnels, because thumps ask for it far more often than tunnels change.
        final int[] wayDelays = new int[PAIRS];
        final int[] reached = new int[MAX_CHAMBERS];

        Burrow() {
            improveAllPairs();
        }

        void copyFrom(Burrow other) {
            chambers = other.chambers;
            tunnels = other.tunnels;
            System.arraycopy(other.tunnelDelays, 0, tunnelDelays, 0, PAIRS);
            System.arraycopy(other.wayDelays, 0, wayDelays, 0, PAIRS);
        }

        boolean has(int chamber) {
            return chamber >= 0 && chamber < chambers;
        }

        Fault digChamber() {
            if (chambers >= MAX_CHAMBERS) {
                return Fault.BAD_STATE;
            }
            chambers++;
            return Fault.NONE;
        }

        Fault digTunnel(int first, int second, int delay) {
            if (!has(first) || !has(second)) {
                return Fault.NO_SUCH_INDEX;
            }
            if (first == second || delay < 1 || delay > MAX_DELAY) {
                return Fault.BAD_ARGUMENT;
            }
            if (delayOfTunnel(first, second) != 0) {
                return Fault.BAD_STATE;
            }
            join(first, second, delay);
            tunnels++;
            return Fault.NONE;
        }

        Fault fillTunnel(int first, int second) {
            if (!has(first) || !has(second)) {
                return Fault.NO_SUCH_INDEX;
            }
            if (delayOfTunnel(first, second) == 0) {
                return Fault.NO_SUCH_ELEMENT;
            }
            join(first, second, 0);
            tunnels--;
            return Fault.NONE;
        }

        private void join(int first, int second, int delay) {
            if (has(first) && has(second)) {
                tunnelDelays[first * MAX_CHAMBERS + second] = delay;
                tunnelDelays[second * MAX_CHAMBERS + first] = delay;
                improveAllPairs();
            }
        }

        int delayOfTunnel(int first, int second) {
            return has(first) && has(second) ? tunnelDelays[first * MAX_CHAMBERS + second] : 0;
        }

        int delayOfWay(int from, int to) {
            return has(from) && has(to) ? wayDelays[from * MAX_CHAMBERS + to] : NO_WAY;
        }

        private void improveAllPairs() {
            for (int pair = 0; pair < PAIRS; pair++) {
                wayDelays[pair] = tunnelDelays[pair] == 0 ? NO_WAY : tunnelDelays[pair];
            }
            for (int chamber = 0; chamber < MAX_CHAMBERS; chamber++) {
                wayDelays[chamber * MAX_CHAMBERS + chamber] = 0;
            }
            for (int through = 0; through < MAX_CHAMBERS; through++) {
                for (int from = 0; from < MAX_CHAMBERS; from++) {
                    improveFrom(from, through);
                }
            }
        }

        private void improveFrom(int from, int through) {
            int firstPart = wayDelays[from * MAX_CHAMBERS + through];
            for (int to = 0; to < MAX_CHAMBERS; to++) {
                int whole = firstPart + wayDelays[through * MAX_CHAMBERS + to];
                if (whole < wayDelays[from * MAX_CHAMBERS + to]) {
                    wayDelays[from * MAX_CHAMBERS + to] = whole;
                }
            }
        }

        int searchWay(int from, int to) {
            if (!has(from) || !has(to)) {
                return NO_WAY;
            }
            for (int chamber = 0; chamber < MAX_CHAMBERS; chamber++) {
                reached[chamber] = chamber == from ? 0 : NO_WAY;
            }
            int finished = 0;
            for (int round = 0; round < MAX_CHAMBERS; round++) {
                int nearest = nearestBut(finished);
                if (nearest != NONE) {
                    finished = finished | (1 << nearest);
                    continueFrom(nearest);
                }
            }
            return reached[to];
        }

        private int nearestBut(int finished) {
            int nearest = NONE;
            int least = NO_WAY;
            for (int chamber = 0; chamber < MAX_CHAMBERS; chamber++) {
                if ((finished & (1 << chamber)) == 0 && reached[chamber] < least) {
                    nearest = chamber;
                    least = reached[chamber];
                }
            }
            return nearest;
        }

        private void continueFrom(int chamber) {
            for (int next = 0; next < MAX_CHAMBERS; next++) {
                int delay = delayOfTunnel(chamber, next);
                if (delay != 0 && reached[chamber] + delay < reached[next]) {
                    reached[next] = reached[chamber] + delay;
                }
            }
        }

        boolean waysAgree() {
            for (int from = 0; from < chambers; from++) {
                for (int to = 0; to < chambers; to++) {
                    if (delayOfWay(from, to) != searchWay(from, to)) {
                        return false;
                    }
                }
            }
            return true;
        }
    }

    private static final class Hare {
        int chamber;
        boolean listens;
        int received;
        int latest;

        void copyFrom(Hare other) {
            chamber = other.chamber;
            listens = other.listens;
            received = other.received;
            latest = other.latest;
        }
    }

    private static final class Message {
        int id;
        int sender;
        int receiver;
        int number;
        char state;
        int timesLost;
        int beats;
        // For each thump of the present attempt and each chamber the tick in
        // which it is heard there: the receiver can move until it is decided.
        final int[] heardAt = new int[BEATS * MAX_CHAMBERS];

        void copyFrom(Message other) {
            id = other.id;
            sender = other.sender;
            receiver = other.receiver;
            number = other.number;
            state = other.state;
            timesLost = other.timesLost;
            beats = other.beats;
            System.arraycopy(other.heardAt, 0, heardAt, 0, BEATS * MAX_CHAMBERS);
        }

        void noteHeard(int beat, int chamber, int tick) {
            if (isSlot(beat, chamber)) {
                heardAt[beat * MAX_CHAMBERS + chamber] = tick;
            }
        }

        int tickHeard(int beat, int chamber) {
            return isSlot(beat, chamber) ? heardAt[beat * MAX_CHAMBERS + chamber] : NONE;
        }

        private static boolean isSlot(int beat, int chamber) {
            return beat >= 0 && beat < BEATS && chamber >= 0 && chamber < MAX_CHAMBERS;
        }

        void begin() {
            state = DRUMMED;
            beats = 0;
        }

        void arrive() {
            state = DELIVERED;
            beats = 0;
        }

        void lose() {
            timesLost++;
            state = timesLost < MAX_TIMES_LOST ? WAITS : LOST;
            beats = 0;
        }
    }

    /** How many thumps are heard, by chambers and by the ticks that still matter. */
    private static final class Air {
        final int[] thumps = new int[MAX_CHAMBERS * TICK_SLOTS];

        void copyFrom(Air other) {
            System.arraycopy(other.thumps, 0, thumps, 0, MAX_CHAMBERS * TICK_SLOTS);
        }

        void addThump(int chamber, int tick) {
            if (chamber >= 0 && chamber < MAX_CHAMBERS) {
                thumps[chamber * TICK_SLOTS + (tick & (TICK_SLOTS - 1))]++;
            }
        }

        int thumpsIn(int chamber, int tick) {
            return chamber >= 0 && chamber < MAX_CHAMBERS
                    ? thumps[chamber * TICK_SLOTS + (tick & (TICK_SLOTS - 1))] : 0;
        }

        void openTick(int tick) {
            for (int chamber = 0; chamber < MAX_CHAMBERS; chamber++) {
                thumps[chamber * TICK_SLOTS + (tick & (TICK_SLOTS - 1))] = 0;
            }
        }
    }

    /** Everything that changes can change. */
    private static final class State {
        final Burrow burrow = new Burrow();
        final Hare[] hares = new Hare[MAX_HARES];
        int hareCount;
        // In ascending order of ids; the places behind the count hold spare ones.
        final Message[] messages = new Message[MAX_MESSAGES];
        int messageCount;
        int nextId;
        final Air air = new Air();
        int ticks;
        int thumps;
        int deliveries;
        int losses;

        State() {
            for (int hare = 0; hare < MAX_HARES; hare++) {
                hares[hare] = new Hare();
            }
            for (int position = 0; position < MAX_MESSAGES; position++) {
                messages[position] = new Message();
            }
        }

        void copyFrom(State other) {
            burrow.copyFrom(other.burrow);
            hareCount = other.hareCount;
            for (int hare = 0; hare < hareCount; hare++) {
                hares[hare].copyFrom(other.hares[hare]);
            }
            messageCount = other.messageCount;
            for (int position = 0; position < messageCount; position++) {
                messages[position].copyFrom(other.messages[position]);
            }
            nextId = other.nextId;
            air.copyFrom(other.air);
            ticks = other.ticks;
            thumps = other.thumps;
            deliveries = other.deliveries;
            losses = other.losses;
        }

        boolean hasHare(int hare) {
            return hare >= 0 && hare < hareCount;
        }

        int placeOf(int hare) {
            return hasHare(hare) ? hares[hare].chamber : NONE;
        }

        boolean listens(int hare) {
            return hasHare(hare) && hares[hare].listens;
        }

        int receivedBy(int hare) {
            return hasHare(hare) ? hares[hare].received : 0;
        }

        int latestOf(int hare) {
            return hasHare(hare) && hares[hare].received > 0 ? hares[hare].latest : NONE;
        }

        boolean drums(int hare) {
            for (int position = 0; position < messageCount; position++) {
                Message message = messages[position];
                if (message.state == DRUMMED && message.sender == hare) {
                    return true;
                }
            }
            return false;
        }

        int haresAheadOf(int hare) {
            int ahead = 0;
            for (int other = 0; other < hareCount; other++) {
                int more = receivedBy(other) - receivedBy(hare);
                if (more > 0 || (more == 0 && other < hare)) {
                    ahead++;
                }
            }
            return ahead;
        }

        Fault settle(int chamber) {
            if (!burrow.has(chamber)) {
                return Fault.NO_SUCH_INDEX;
            }
            if (hareCount >= MAX_HARES) {
                return Fault.BAD_STATE;
            }
            Hare hare = hares[hareCount];
            hare.chamber = chamber;
            hare.listens = true;
            hare.received = 0;
            hareCount++;
            return Fault.NONE;
        }

        Fault go(int hare, int chamber) {
            if (!hasHare(hare) || !burrow.has(chamber)) {
                return Fault.NO_SUCH_INDEX;
            }
            if (drums(hare)) {
                return Fault.BAD_STATE;
            }
            hares[hare].chamber = chamber;
            return Fault.NONE;
        }

        Fault letListen(int hare, boolean listens) {
            if (!hasHare(hare)) {
                return Fault.NO_SUCH_INDEX;
            }
            hares[hare].listens = listens;
            return Fault.NONE;
        }

        int positionOf(int id) {
            for (int position = 0; position < messageCount; position++) {
                if (messages[position].id == id) {
                    return position;
                }
            }
            return NONE;
        }

        boolean isDelivered(int position) {
            return position >= 0 && position < messageCount
                    && messages[position].state == DELIVERED;
        }

        Fault addMessage(int sender, int receiver, int number) {
            if (!hasHare(sender) || !hasHare(receiver)) {
                return Fault.NO_SUCH_INDEX;
            }
            if (sender == receiver || !isNumber(number)) {
                return Fault.BAD_ARGUMENT;
            }
            if (messageCount >= MAX_MESSAGES) {
                return Fault.BAD_STATE;
            }
            Message message = messages[messageCount];
            message.id = nextId;
            message.sender = sender;
            message.receiver = receiver;
            message.number = number;
            message.state = WAITS;
            message.timesLost = 0;
            message.beats = 0;
            messageCount++;
            nextId++;
            return Fault.NONE;
        }

        Fault dropMessage(int id) {
            int position = positionOf(id);
            if (position == NONE) {
                return Fault.NO_SUCH_ELEMENT;
            }
            Message dropped = messages[position];
            if (dropped.state == DRUMMED) {
                return Fault.BAD_STATE;
            }
            for (int next = position + 1; next < messageCount; next++) {
                messages[next - 1] = messages[next];
            }
            messageCount--;
            // Each place keeps a message of its own, so that none is made in a call.
            messages[messageCount] = dropped;
            return Fault.NONE;
        }

        Fault letTicksPass(int number) {
            if (number < 1 || number > MAX_TICKS_AT_ONCE) {
                return Fault.BAD_ARGUMENT;
            }
            for (int passed = 0; passed < number; passed++) {
                passOneTick();
            }
            return Fault.NONE;
        }

        void passOneTick() {
            beginMessages();
            drumBeats();
            decideDeliveries();
            ticks++;
            air.openTick(ticks + TICKS_AHEAD);
        }

        private void beginMessages() {
            for (int chamber = 0; chamber < burrow.chambers; chamber++) {
                int first = firstIn(chamber, WAITS);
                if (first != NONE && firstIn(chamber, DRUMMED) == NONE) {
                    messages[first].begin();
                }
            }
        }

        private int firstIn(int chamber, char state) {
            for (int position = 0; position < messageCount; position++) {
                Message message = messages[position];
                if (message.state == state && placeOf(message.sender) == chamber) {
                    return position;
                }
            }
            return NONE;
        }

        private void drumBeats() {
            for (int position = 0; position < messageCount; position++) {
                Message message = messages[position];
                if (message.state == DRUMMED) {
                    if (isOne(codeOf(message.number), message.beats)) {
                        thump(message);
                    }
                    message.beats++;
                }
            }
        }

        private void thump(Message message) {
            int from = placeOf(message.sender);
            // Chambers that are not there yet as well: the receiver may be in one
            // later, and must not find a tick of an earlier attempt there.
            for (int chamber = 0; chamber < MAX_CHAMBERS; chamber++) {
                int delay = burrow.delayOfWay(from, chamber);
                if (delay == NO_WAY) {
                    message.noteHeard(message.beats, chamber, NONE);
                } else {
                    message.noteHeard(message.beats, chamber, ticks + delay);
                    air.addThump(chamber, ticks + delay);
                }
            }
            thumps++;
        }

        private void decideDeliveries() {
            for (int position = 0; position < messageCount; position++) {
                Message message = messages[position];
                if (message.state == DRUMMED && message.beats >= BEATS) {
                    if (isUnderstood(message)) {
                        deliver(message);
                    } else {
                        message.lose();
                        losses++;
                    }
                }
            }
        }

        private boolean isUnderstood(Message message) {
            int place = placeOf(message.receiver);
            if (!listens(message.receiver)
                    || burrow.delayOfWay(placeOf(message.sender), place) == NO_WAY) {
                return false;
            }
            int code = codeOf(message.number);
            for (int beat = 0; beat < BEATS; beat++) {
                if (isOne(code, beat)) {
                    int tick = message.tickHeard(beat, place);
                    if (tick == NONE || air.thumpsIn(place, tick) != 1) {
                        return false;
                    }
                }
            }
            return true;
        }

        private void deliver(Message message) {
            message.arrive();
            deliveries++;
            if (hasHare(message.receiver)) {
                Hare hare = hares[message.receiver];
                hare.received++;
                hare.latest = message.number;
            }
        }

        boolean isDrummedByOneEach() {
            int chambersWithDrumming = 0;
            for (int position = 0; position < messageCount; position++) {
                Message message = messages[position];
                if (message.state == DRUMMED) {
                    int chamber = 1 << placeOf(message.sender);
                    if ((chambersWithDrumming & chamber) != 0) {
                        return false;
                    }
                    chambersWithDrumming = chambersWithDrumming | chamber;
                }
            }
            return true;
        }
    }

    /** The states before the latest changes. */
    private static final class History {
        // One more than can be undone: a change that is refused must not have
        // overwritten the oldest one.
        final State[] before = new State[MAX_UNDO + 1];
        int next;
        int count;

        History() {
            for (int slot = 0; slot <= MAX_UNDO; slot++) {
                before[slot] = new State();
            }
        }

        void prepare(State state) {
            before[next].copyFrom(state);
        }

        void copyPreparedTo(State state) {
            state.copyFrom(before[next]);
        }

        void keep() {
            next = next == MAX_UNDO ? 0 : next + 1;
            count = Math.min(count + 1, MAX_UNDO);
        }

        boolean takeBack(State state) {
            if (count == 0) {
                return false;
            }
            count--;
            next = next == 0 ? MAX_UNDO : next - 1;
            state.copyFrom(before[next]);
            return true;
        }
    }

    /** The forms of the commands: # stands for a digit, % for a number of one or two digits. */
    private enum CommandKind {
        CHAMBER("chamber"),
        TUNNEL("tunnel #-#*#"),
        HARE("hare #"),
        SAY("say #>#=%"),
        LISTEN("listen #"),
        SLEEP("sleep #"),
        GO("go #@#"),
        TICK("tick %");

        private final String form;

        CommandKind(String form) {
            this.form = form;
        }
    }

    private static final class Command {
        CommandKind kind = CommandKind.CHAMBER;
        final int[] arguments = new int[MAX_ARGUMENTS];
        int argumentCount;

        void addArgument(int value) {
            if (argumentCount >= 0 && argumentCount < MAX_ARGUMENTS) {
                arguments[argumentCount] = value;
                argumentCount++;
            }
        }
    }

    /** The input buffer and what was read in it. */
    private static final class CommandReader {
        final char[] text = new char[INPUT_CAPACITY];
        int length;
        final Command[] commands = new Command[MAX_COMMANDS];
        int commandCount;
        int errorPosition = NONE;
        private int position;

        CommandReader() {
            for (int index = 0; index < MAX_COMMANDS; index++) {
                commands[index] = new Command();
            }
        }

        boolean take(char character) {
            if (length < 0 || length >= INPUT_CAPACITY) {
                return false;
            }
            text[length] = character;
            length++;
            return true;
        }

        void readText() {
            commandCount = 0;
            errorPosition = NONE;
            int start = 0;
            boolean more = true;
            while (more && commandCount < MAX_COMMANDS) {
                boolean whole = readCommand(start, commands[commandCount]);
                more = whole && isAt(position, ';');
                if (!whole || (!more && position < length)) {
                    errorPosition = position;
                }
                commandCount++;
                start = position + 1;
            }
        }

        /** Leaves the position behind the command, or where the form that fits longest ends to fit. */
        private boolean readCommand(int start, Command command) {
            int furthest = start;
            for (int index = 0; index < COMMAND_KINDS.length; index++) {
                if (readForm(COMMAND_KINDS[index], start, command)) {
                    return true;
                }
                furthest = Math.max(furthest, position);
            }
            position = furthest;
            return false;
        }

        private boolean readForm(CommandKind kind, int start, Command command) {
            command.kind = kind;
            command.argumentCount = 0;
            position = start;
            for (int index = 0; index < kind.form.length(); index++) {
                char sign = kind.form.charAt(index);
                boolean fits = sign == '#' || sign == '%'
                        ? readNumber(sign == '%', command) : readSign(sign);
                if (!fits) {
                    return false;
                }
            }
            return true;
        }

        private boolean readSign(char sign) {
            if (!isAt(position, sign)) {
                return false;
            }
            position++;
            return true;
        }

        private boolean readNumber(boolean twoDigits, Command command) {
            if (!isDigitAt(position)) {
                return false;
            }
            int value = digitAt(position);
            position++;
            if (twoDigits && isDigitAt(position)) {
                value = value * 10 + digitAt(position);
                position++;
            }
            command.addArgument(value);
            return true;
        }

        private boolean isAt(int index, char sign) {
            return index >= 0 && index < length && text[index] == sign;
        }

        private boolean isDigitAt(int index) {
            return index >= 0 && index < length && text[index] >= '0' && text[index] <= '9';
        }

        private int digitAt(int index) {
            return isDigitAt(index) ? text[index] - '0' : 0;
        }
    }
}
