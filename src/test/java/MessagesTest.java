/** Promises 22 to 33: messages and their delivery. */
final class MessagesTest {
    private MessagesTest() {
    }

    static void run() {
        say();
        forget();
        positions();
        whoAndWhom();
        states();
        losses();
        beats();
        codes();
        ticksUntilDelivery();
        foresightChangesNothing();
    }

    private static DrumWarren pair() {
        return Warrens.withHares(Warrens.inARow(2), 0, 1);
    }

    private static void say() {
        DrumWarren x = pair();
        Check.due(22, Check.INDEX, () -> x.say(2, 0, 1));
        Check.due(22, Check.INDEX, () -> x.say(0, 2, 1));
        Check.due(22, Check.INDEX, () -> x.say(-1, -1, 16));
        Check.due(22, Check.ARGUMENT, () -> x.say(1, 1, 1));
        Check.due(22, Check.ARGUMENT, () -> x.say(0, 1, -1));
        Check.due(22, Check.ARGUMENT, () -> x.say(0, 1, 16));
        for (int i = 0; i < 8; i++) {
            int number = i;
            Check.due(22, number, () -> x.say(number % 2, 1 - number % 2, number + 8));
        }
        Check.due(22, Check.STATE, () -> x.say(0, 1, 0));
        Check.due(22, Check.ARGUMENT, () -> x.say(0, 1, 16));
        Check.due(22, Check.INDEX, () -> x.say(0, 6, 0));
        x.forget(3);
        Check.due(22, 8, () -> x.say(0, 1, 0));
        Check.due(22, Check.STATE, () -> x.say(0, 1, 0));
        x.forget(8);
        Check.due(22, 9, () -> x.say(0, 1, 15));
        Check.due(22, 'w', () -> x.state(9));
    }

    private static void forget() {
        DrumWarren x = pair();
        x.say(0, 1, 1);
        x.say(0, 1, 2);
        x.say(0, 1, 3);
        x.passTicks(1);
        Check.due(23, Check.STATE, () -> x.forget(0));
        Check.due(23, Check.ELEMENT, () -> x.forget(3));
        Check.due(23, Check.ELEMENT, () -> x.forget(-1));
        Check.due(23, 2, () -> x.forget(1));
        Check.due(23, Check.ELEMENT, () -> x.forget(1));
        x.passTicks(4);
        Check.due(23, 'r', () -> x.state(0));
        Check.due(23, 1, () -> x.forget(0));
        Check.due(23, 1, x::deliveries);
        x.setListening(1, false);
        x.passTicks(15);
        Check.due(23, 'l', () -> x.state(2));
        Check.due(23, 0, () -> x.forget(2));
    }

    private static void positions() {
        DrumWarren x = pair();
        Check.due(24, 0, x::messageCount);
        Check.due(25, Check.INDEX, () -> x.message(0));
        for (int i = 0; i < 5; i++) {
            x.say(0, 1, i);
        }
        x.forget(2);
        x.forget(0);
        x.say(1, 0, 1);
        Check.due(24, 4, x::messageCount);
        int[] due = {1, 3, 4, 5};
        for (int i = 0; i < 4; i++) {
            int position = i;
            Check.due(25, due[position], () -> x.message(position));
        }
        Check.due(25, Check.INDEX, () -> x.message(4));
        Check.due(25, Check.INDEX, () -> x.message(-1));
    }

    private static void whoAndWhom() {
        DrumWarren x = Warrens.withHares(Warrens.withChambers(1), 0, 0, 0);
        x.say(2, 0, 5);
        x.say(1, 2, 5);
        Check.due(26, 2, () -> x.sender(0));
        Check.due(27, 0, () -> x.receiver(0));
        Check.due(26, 1, () -> x.sender(1));
        Check.due(27, 2, () -> x.receiver(1));
        x.forget(0);
        Check.due(26, 1, () -> x.sender(1));
        Check.due(27, 2, () -> x.receiver(1));
        for (int id : new int[] {-1, 0, 2, Integer.MIN_VALUE}) {
            Check.due(26, Check.ELEMENT, () -> x.sender(id));
            Check.due(27, Check.ELEMENT, () -> x.receiver(id));
            Check.due(28, Check.ELEMENT, () -> x.state(id));
            Check.due(29, Check.ELEMENT, () -> x.timesLost(id));
            Check.due(30, Check.ELEMENT, () -> x.beatsDrummed(id));
            Check.due(33, Check.ELEMENT, () -> x.ticksUntilDelivery(id));
        }
    }

    private static void states() {
        DrumWarren x = Warrens.withHares(Warrens.inARow(1, 1), 0, 2, 0);
        x.say(2, 0, 3);
        x.say(0, 2, 4);
        x.say(1, 0, 0);
        Check.due(28, "www", () -> Warrens.states(x));
        x.passTicks(1);
        Check.due(28, "dwd", () -> Warrens.states(x));
        x.passTicks(4);
        Check.due(28, "rwr", () -> Warrens.states(x));
        x.setListening(2, false);
        x.passTicks(5);
        Check.due(28, "rwr", () -> Warrens.states(x));
        x.passTicks(10);
        Check.due(28, "rlr", () -> Warrens.states(x));
    }

    private static void losses() {
        DrumWarren x = pair();
        x.say(0, 1, 7);
        x.say(0, 1, 9);
        x.setListening(1, false);
        for (int times = 0; times <= 3; times++) {
            int due = times;
            Check.due(29, due, () -> x.timesLost(0));
            Check.due(29, 0, () -> x.timesLost(1));
            x.passTicks(5);
        }
        Check.due(29, 3, () -> x.timesLost(0));
        Check.due(29, 1, () -> x.timesLost(1));
        x.setListening(1, true);
        Check.due(29, 1, () -> x.passTicks(5));
        Check.due(29, 1, () -> x.timesLost(1));
        Check.due(28, 'r', () -> x.state(1));
    }

    private static void beats() {
        DrumWarren x = pair();
        x.say(0, 1, 7);
        x.setListening(1, false);
        for (int attempt = 0; attempt < 3; attempt++) {
            for (int beats = 0; beats < 5; beats++) {
                int due = beats;
                Check.due(30, due, () -> x.beatsDrummed(0));
                x.passTicks(1);
            }
        }
        Check.due(30, 0, () -> x.beatsDrummed(0));
        Check.due(30, 'l', () -> x.state(0));
    }

    private static void codes() {
        DrumWarren x = new DrumWarren();
        for (int i = 0; i < 16; i++) {
            int number = i;
            String digits = Integer.toBinaryString(16 + number).substring(1);
            boolean odd = digits.replace("0", "").length() % 2 == 1;
            String code = digits + (odd ? "1" : "0");
            for (int beat = 0; beat < 5; beat++) {
                int index = beat;
                Check.due(31, code.charAt(index) == '1', () -> x.isThump(number, index));
            }
            int right = Integer.parseInt(code, 2);
            Check.due(32, number, () -> x.decode(right));
            Check.due(32, Check.ELEMENT, () -> x.decode(right ^ 1));
        }
        Check.due(31, Check.ARGUMENT, () -> x.isThump(-1, 0));
        Check.due(31, Check.ARGUMENT, () -> x.isThump(16, 5));
        Check.due(31, Check.INDEX, () -> x.isThump(15, 5));
        Check.due(31, Check.INDEX, () -> x.isThump(0, -1));
        Check.due(32, Check.ARGUMENT, () -> x.decode(-1));
        Check.due(32, Check.ARGUMENT, () -> x.decode(32));
        Check.due(32, Check.ARGUMENT, () -> x.decode(Integer.MIN_VALUE));
    }

    private static void ticksUntilDelivery() {
        DrumWarren x = pair();
        for (int i = 0; i < 8; i++) {
            x.say(0, 1, 1);
        }
        Check.due(33, 5, () -> x.ticksUntilDelivery(0));
        Check.due(33, 40, () -> x.ticksUntilDelivery(7));
        x.passTicks(3);
        Check.due(33, 2, () -> x.ticksUntilDelivery(0));
        x.passTicks(2);
        Check.due(33, Check.STATE, () -> x.ticksUntilDelivery(0));
        x.setListening(1, false);
        Check.due(33, Check.UNSUPPORTED, () -> x.ticksUntilDelivery(1));
        x.passTicks(15);
        Check.due(33, Check.STATE, () -> x.ticksUntilDelivery(1));

        // Four messages that are lost three times take 60 ticks, the last one is delivered in time or not.
        DrumWarren y = Warrens.withHares(Warrens.withChambers(2), 0, 1, 0);
        y.say(0, 1, 1);
        y.say(0, 1, 1);
        y.say(0, 1, 1);
        y.say(0, 2, 1);
        y.say(0, 2, 2);
        y.say(0, 2, 3);
        y.say(0, 2, 4);
        Check.due(33, 50, () -> y.ticksUntilDelivery(3));
        Check.due(33, 60, () -> y.ticksUntilDelivery(5));
        Check.due(33, Check.UNSUPPORTED, () -> y.ticksUntilDelivery(6));
        y.passTicks(1);
        Check.due(33, 59, () -> y.ticksUntilDelivery(5));
        Check.due(33, Check.UNSUPPORTED, () -> y.ticksUntilDelivery(6));
        y.passTicks(4);
        Check.due(33, 60, () -> y.ticksUntilDelivery(6));
    }

    private static void foresightChangesNothing() {
        DrumWarren x = pair();
        x.say(0, 1, 15);
        x.passTicks(2);
        Check.due(33, 3, () -> x.ticksUntilDelivery(0));
        Check.due(33, 2, x::ticks);
        Check.due(33, 2, x::thumpsDrummed);
        Check.due(33, 0, () -> x.thumpsHeard(1, 4));
        Check.due(33, 2, () -> x.beatsDrummed(0));
        Check.due(33, 7, x::undoCount);
    }
}
