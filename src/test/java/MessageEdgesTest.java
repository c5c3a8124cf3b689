import java.util.function.Supplier;

/** The boundary cases of the promises 22 to 33: messages. */
final class MessageEdgesTest extends SentenceTests {
    /** A call with a message. */
    interface MessageAct {
        Object on(DrumWarren warren, int message);
    }

    private MessageEdgesTest() {
    }

    static void run() {
        say();
        sayRefused();
        forget();
        forgetRefused();
        positions();
        senderAndReceiver();
        state();
        timesLost();
        beatsDrummed();
        isThump();
        decode();
        ticksUntilDelivery();
        ticksUntilDeliveryRefused();
    }

    private static DrumWarren together(int hares) {
        return Warrens.withHares(Warrens.withChambers(1), new int[hares]);
    }

    private static DrumWarren said(int messages) {
        DrumWarren x = together(2);
        for (int i = 0; i < messages; i++) {
            x.say(0, 1, 15 - i);
        }
        return x;
    }

    /** There is none, the ids are not given yet, or the message was forgotten or undone. */
    private static void refusedWithoutMessage(MessageAct act) {
        refused(Check.ELEMENT, DrumWarren::new, x -> act.on(x, 0));
        for (int messages : new int[] {0, 1, 8}) {
            for (int bad : outside(messages)) {
                refused(Check.ELEMENT, () -> said(messages), x -> act.on(x, bad));
            }
        }
        for (int id : new int[] {0, 3, 7}) {
            refused(Check.ELEMENT, () -> saidAndForgot(8, id), x -> act.on(x, id));
        }
        refused(Check.ELEMENT, () -> saidAndForgot(1, 0), x -> act.on(x, 0));
        refused(Check.ELEMENT, () -> saidAndUndone(3), x -> act.on(x, 2));
        refused(Check.ELEMENT, Warrens::busy, x -> act.on(x, 5));
    }

    private static DrumWarren saidAndForgot(int messages, int id) {
        DrumWarren x = said(messages);
        x.forget(id);
        return x;
    }

    private static DrumWarren saidAndUndone(int messages) {
        DrumWarren x = said(messages);
        x.undo();
        return x;
    }

    private static void say() {
        test(22, "Adds a waiting message.", () -> {
            DrumWarren x = together(2);
            x.say(1, 0, 15);
            due(1, x::messageCount);
            due("0:1>0=15w", () -> Warrens.written(x, 0));
            due(0, () -> x.beatsDrummed(0));
            due(false, () -> x.isDrumming(1));
            // The place of a message that was lost and forgotten is given to a new one.
            x.setListening(0, false);
            x.passTicks(15);
            x.forget(0);
            due(1, () -> x.say(0, 1, 2));
            due("1:0>1=2w", () -> Warrens.written(x, 1));
            due(0, () -> x.timesLost(1));
            // And so is that of a message that was being drummed when it was undone.
            DrumWarren y = together(2);
            Warrens.executeText(y, "say 0>1=15;tick 3");
            due(3, () -> y.beatsDrummed(0));
            y.undo();
            due(0, () -> y.say(1, 0, 6));
            due("0:1>0=6w", () -> Warrens.written(y, 0));
            due(0, () -> y.beatsDrummed(0));
            due(1, () -> y.passTicks(5));
        });
        test(22, "Returns the id of the message.", () -> {
            DrumWarren x = together(2);
            for (int i = 0; i < 8; i++) {
                due(i, () -> x.say(0, 1, 15));
            }
            x.undo();
            due(7, () -> x.say(1, 0, 0));
            x.forget(7);
            due(8, () -> x.say(1, 0, 0));
            Check.answer(() -> x.say(1, 0, 0));
            x.forget(0);
            due(9, () -> x.say(1, 0, 0));
        });
    }

    private static void sayRefused() {
        test(22, "Throws `IndexOutOfBoundsException` if there is no such hare, for either", () -> {
            for (int hares : new int[] {0, 1, 2, 6}) {
                for (int bad : outside(hares)) {
                    refused(Check.INDEX, () -> together(hares), x -> x.say(bad, 0, 1));
                    refused(Check.INDEX, () -> together(hares), x -> x.say(0, bad, 1));
                    refused(Check.INDEX, () -> together(hares), x -> x.say(bad, bad, 1));
                }
            }
            due(0, () -> together(6).say(5, 0, 1));
            refused(Check.INDEX, Warrens::full, x -> x.say(6, 0, 1));
            refused(Check.INDEX, Warrens::full, x -> x.say(0, -1, 16));
        });
        test(22, "Throws `IllegalArgumentException` if both are the same hare, or number is not from 0 to 15", () -> {
            for (int i = 0; i < 6; i++) {
                int hare = i;
                refused(Check.ARGUMENT, () -> together(6), x -> x.say(hare, hare, 1));
            }
            for (int number : outside(16)) {
                refused(Check.ARGUMENT, () -> together(2), x -> x.say(0, 1, number));
                refused(Check.ARGUMENT, Warrens::full, x -> x.say(0, 1, number));
            }
            due(0, () -> together(2).say(0, 1, 0));
            due(0, () -> together(2).say(0, 1, 15));
        });
        test(22, "Throws `IllegalStateException` if there are 8 messages", () -> {
            due(7, () -> said(7).say(0, 1, 1));
            refused(Check.STATE, () -> said(8), x -> x.say(0, 1, 1));
            refused(Check.STATE, Warrens::full, x -> x.say(0, 1, 0));
            // Messages that were delivered count, and so do lost ones.
            DrumWarren x = said(8);
            x.passTicks(40);
            due("rrrrrrrr", () -> Warrens.states(x));
            due(Check.STATE, () -> x.say(0, 1, 1));
            x.forget(4);
            due(8, () -> x.say(0, 1, 1));
            due(Check.STATE, () -> x.say(0, 1, 1));
        });
    }

    private static void forget() {
        test(23, "Removes a message that is not being drummed.", () -> {
            for (int i = 0; i < 8; i++) {
                int id = i;
                DrumWarren x = said(8);
                x.forget(id);
                due(7, x::messageCount);
                due(Check.ELEMENT, () -> x.state(id));
                for (int position = 0; position < 7; position++) {
                    int left = position < id ? position : position + 1;
                    int asked = position;
                    due(left, () -> x.message(asked));
                    due(left + ":0>1=" + (15 - left) + "w", () -> Warrens.written(x, left));
                }
            }
            // It is never drummed, and what it drummed before stays heard.
            DrumWarren x = said(2);
            x.forget(0);
            due(1, () -> x.passTicks(10));
            due(14, () -> x.latestNumber(1));
            x.forget(1);
            due(1, () -> x.thumpsHeard(0, 0));
            due(4, x::thumpsDrummed);
            due(1, x::deliveries);
        });
        test(23, "Returns the number of messages afterwards.", () -> {
            DrumWarren x = said(8);
            for (int left = 7; left >= 0; left--) {
                int id = 7 - left;
                due(left, () -> x.forget(id));
            }
        });
    }

    private static void forgetRefused() {
        test(23, "Throws `NoSuchElementException` if there is no such message",
                () -> refusedWithoutMessage(DrumWarren::forget));
        test(23, "Throws `IllegalStateException` if it is being drummed", () -> {
            for (int ticks = 1; ticks <= 4; ticks++) {
                int passed = ticks;
                refused(Check.STATE, () -> saidAndPassed(passed), x -> x.forget(0));
                due(1, () -> saidAndPassed(passed).forget(1));
            }
            due(1, () -> saidAndPassed(5).forget(0));
            refused(Check.STATE, () -> saidAndPassed(6), x -> x.forget(1));
            // Lost it waits and can be forgotten, in its next attempt it cannot.
            DrumWarren x = said(1);
            x.setListening(1, false);
            x.passTicks(6);
            due(Check.STATE, () -> x.forget(0));
            x.passTicks(4);
            due('w', () -> x.state(0));
            due(0, () -> x.forget(0));
            x.undo();
            x.passTicks(5);
            due('l', () -> x.state(0));
            due(0, () -> x.forget(0));
        });
    }

    private static DrumWarren saidAndPassed(int ticks) {
        DrumWarren x = said(2);
        x.passTicks(ticks);
        return x;
    }

    private static void positions() {
        test(24, "Returns the number of messages.", () -> {
            due(0, () -> new DrumWarren().messageCount());
            DrumWarren x = together(2);
            for (int i = 1; i <= 8; i++) {
                x.say(0, 1, 1);
                due(i, x::messageCount);
            }
            Check.answer(() -> x.say(0, 1, 1));
            due(8, x::messageCount);
            x.passTicks(40);
            due(8, x::messageCount);
            for (int i = 7; i >= 0; i--) {
                x.forget(i);
                due(i, x::messageCount);
            }
        });
        test(25, "Returns a message by the position in ascending order of ids.", () -> {
            DrumWarren x = said(8);
            x.forget(3);
            x.say(1, 0, 1);
            x.forget(0);
            x.say(0, 1, 1);
            // The order is that of the ids, whatever became of the messages.
            x.passTicks(40);
            int[] due = {1, 2, 4, 5, 6, 7, 8, 9};
            for (int i = 0; i < 8; i++) {
                int position = i;
                due(due[position], () -> x.message(position));
            }
        });
        test(25, "Returns the id of the message.", () -> {
            DrumWarren x = said(8);
            due(0, () -> x.message(0));
            due(7, () -> x.message(7));
            x.forget(0);
            due(1, () -> x.message(0));
            due(7, () -> x.message(6));
            x.forget(4);
            due(5, () -> x.message(3));
        });
        test(25, "Throws `IndexOutOfBoundsException` if there is no such position", () -> {
            for (int messages : new int[] {0, 1, 8}) {
                for (int bad : outside(messages)) {
                    refused(Check.INDEX, () -> said(messages), x -> x.message(bad));
                }
            }
            refused(Check.INDEX, () -> saidAndForgot(8, 0), x -> x.message(7));
            refused(Check.INDEX, () -> saidAndForgot(1, 0), x -> x.message(0));
            refused(Check.INDEX, () -> saidAndUndone(2), x -> x.message(1));
        });
    }

    private static void senderAndReceiver() {
        test(26, "Returns the index of the hare.", () -> {
            DrumWarren x = together(6);
            x.say(0, 5, 1);
            x.say(5, 0, 1);
            due(0, () -> x.sender(0));
            due(5, () -> x.sender(1));
            x.passTicks(10);
            x.forget(0);
            due(5, () -> x.sender(1));
        });
        test(26, "Throws `NoSuchElementException` if there is no such message",
                () -> refusedWithoutMessage(DrumWarren::sender));
        test(27, "Returns the index of the hare.", () -> {
            DrumWarren x = together(6);
            x.say(0, 5, 1);
            x.say(5, 0, 1);
            due(5, () -> x.receiver(0));
            due(0, () -> x.receiver(1));
            x.passTicks(10);
            x.forget(0);
            due(0, () -> x.receiver(1));
        });
        test(27, "Throws `NoSuchElementException` if there is no such message",
                () -> refusedWithoutMessage(DrumWarren::receiver));
    }

    private static void state() {
        test(28, "Returns 'w' if it waits, 'd' if it is being drummed, 'r' if it was delivered, 'l' if it is lost.", () -> {
            DrumWarren x = said(1);
            due('w', () -> x.state(0));
            x.passTicks(1);
            due('d', () -> x.state(0));
            x.passTicks(3);
            due('d', () -> x.state(0));
            x.passTicks(1);
            due('r', () -> x.state(0));
            DrumWarren y = said(1);
            y.setListening(1, false);
            y.passTicks(5);
            due('w', () -> y.state(0));
            y.passTicks(5);
            due('w', () -> y.state(0));
            y.passTicks(4);
            due('d', () -> y.state(0));
            y.passTicks(1);
            due('l', () -> y.state(0));
        });
        test(28, "Throws `NoSuchElementException` if there is no such message",
                () -> refusedWithoutMessage(DrumWarren::state));
    }

    private static void timesLost() {
        test(29, "Returns the number of times, 0 to 3.", () -> {
            DrumWarren x = said(1);
            x.setListening(1, false);
            for (int times = 0; times < 3; times++) {
                due(times, () -> x.timesLost(0));
                x.passTicks(4);
                due(times, () -> x.timesLost(0));
                x.passTicks(1);
            }
            due(3, () -> x.timesLost(0));
            x.passTicks(40);
            due(3, () -> x.timesLost(0));
            x.undo();
            x.undo();
            due(2, () -> x.timesLost(0));
            x.setListening(1, true);
            x.passTicks(1);
            due('r', () -> x.state(0));
            due(2, () -> x.timesLost(0));
        });
        test(29, "Throws `NoSuchElementException` if there is no such message",
                () -> refusedWithoutMessage(DrumWarren::timesLost));
    }

    private static void beatsDrummed() {
        test(30, "Returns the number of beats of a message that were drummed in the present attempt.", () -> {
            DrumWarren x = said(1);
            x.setListening(1, false);
            for (int tick = 0; tick < 20; tick++) {
                int due = tick < 15 ? tick % 5 : 0;
                due(due, () -> x.beatsDrummed(0));
                x.passTicks(1);
            }
        });
        test(30, "Returns the number of beats, 0 if it is not being drummed.", () -> {
            DrumWarren x = said(2);
            due(0, () -> x.beatsDrummed(0));
            x.passTicks(4);
            due(4, () -> x.beatsDrummed(0));
            due(0, () -> x.beatsDrummed(1));
            x.passTicks(1);
            due(0, () -> x.beatsDrummed(0));
            due(0, () -> x.beatsDrummed(1));
            x.passTicks(1);
            due(0, () -> x.beatsDrummed(0));
            due(1, () -> x.beatsDrummed(1));
            // Lost it waits, and after the third time it is not drummed any more.
            x.setListening(1, false);
            x.passTicks(4);
            due(0, () -> x.beatsDrummed(1));
            x.passTicks(40);
            due('l', () -> x.state(1));
            due(0, () -> x.beatsDrummed(1));
        });
        test(30, "Throws `NoSuchElementException` if there is no such message",
                () -> refusedWithoutMessage(DrumWarren::beatsDrummed));
    }

    private static void isThump() {
        test(31, "Throws `IllegalArgumentException` if number is not from 0 to 15", () -> {
            for (int number : outside(16)) {
                refused(Check.ARGUMENT, DrumWarren::new, x -> x.isThump(number, 0));
                refused(Check.ARGUMENT, DrumWarren::new, x -> x.isThump(number, 4));
            }
            DrumWarren x = new DrumWarren();
            due(false, () -> x.isThump(0, 0));
            due(true, () -> x.isThump(15, 0));
        });
        test(31, "Throws `IndexOutOfBoundsException` if beat is not from 0 to 4", () -> {
            for (int beat : outside(5)) {
                refused(Check.INDEX, DrumWarren::new, x -> x.isThump(0, beat));
                refused(Check.INDEX, DrumWarren::new, x -> x.isThump(15, beat));
            }
            // An index of a beat is not taken modulo the 32 bits of an int.
            refused(Check.INDEX, DrumWarren::new, x -> x.isThump(15, 32));
            DrumWarren x = new DrumWarren();
            due(true, () -> x.isThump(8, 0));
            due(true, () -> x.isThump(8, 4));
            due(false, () -> x.isThump(15, 4));
        });
    }

    private static void decode() {
        test(32, "Returns the number.", () -> {
            DrumWarren x = new DrumWarren();
            int[] codes = {0, 3, 5, 6, 9, 10, 12, 15, 17, 18, 20, 23, 24, 27, 29, 30};
            for (int i = 0; i < 16; i++) {
                int number = i;
                due(number, () -> x.decode(codes[number]));
            }
        });
        test(32, "Throws `IllegalArgumentException` if code is not from 0 to 31", () -> {
            for (int code : outside(32)) {
                refused(Check.ARGUMENT, DrumWarren::new, x -> x.decode(code));
            }
            // 33 has an even number of beats that are 1.
            refused(Check.ARGUMENT, DrumWarren::new, x -> x.decode(33));
            due(0, () -> new DrumWarren().decode(0));
            due(15, () -> new DrumWarren().decode(30));
        });
        test(32, "Throws `NoSuchElementException` if the number of beats that are 1 is odd", () -> {
            for (int code : new int[] {1, 2, 4, 7, 8, 11, 13, 14, 16, 19, 21, 22, 25, 26, 28, 31}) {
                refused(Check.ELEMENT, DrumWarren::new, x -> x.decode(code));
            }
        });
    }

    /** Messages to hare 1, to which no way leads, and behind them others to hare 2, which will be delivered. */
    private static DrumWarren queue(int lost, int heard) {
        DrumWarren x = Warrens.withHares(Warrens.withChambers(2), 0, 1, 0);
        for (int i = 0; i < lost + heard; i++) {
            x.say(0, i < lost ? 1 : 2, 1);
        }
        return x;
    }

    private static void ticksUntilDelivery() {
        test(33, "Returns after how many ticks a message is delivered if only ticks pass.", () -> {
            DrumWarren x = said(8);
            for (int i = 0; i < 8; i++) {
                int id = i;
                due(5, () -> x.ticksUntilDelivery(id));
                x.passTicks(4);
                due('d', () -> x.state(id));
                due(1, () -> x.ticksUntilDelivery(id));
                x.passTicks(1);
                due('r', () -> x.state(id));
            }
            // What happens besides the ticks is not foreseen, and asking changes nothing.
            DrumWarren y = said(2);
            due(10, () -> y.ticksUntilDelivery(1));
            due(0, y::ticks);
            due("ww", () -> Warrens.states(y));
            y.forget(0);
            due(5, () -> y.ticksUntilDelivery(1));
            y.setListening(1, false);
            due(Check.UNSUPPORTED, () -> y.ticksUntilDelivery(1));
            y.setListening(1, true);
            due(5, () -> y.ticksUntilDelivery(1));
        });
        test(33, "Returns the number of ticks, 1 to 60.", () -> {
            DrumWarren x = said(8);
            due(5, () -> x.ticksUntilDelivery(0));
            due(40, () -> x.ticksUntilDelivery(7));
            x.passTicks(4);
            due(1, () -> x.ticksUntilDelivery(0));
            due(36, () -> x.ticksUntilDelivery(7));
            // Each of the lost ones is drummed three times, for 15 ticks.
            DrumWarren y = queue(3, 3);
            due(50, () -> y.ticksUntilDelivery(3));
            due(55, () -> y.ticksUntilDelivery(4));
            due(60, () -> y.ticksUntilDelivery(5));
            // Late, and with thumps on their way.
            DrumWarren late = Warrens.withHares(Warrens.inARow(9), 0, 1);
            late.passTicks(40);
            late.say(0, 1, 15);
            late.passTicks(3);
            due(2, () -> late.ticksUntilDelivery(0));
            due(2, () -> late.ticksUntilDelivery(0));
            due(1, () -> late.passTicks(2));
            // It may be lost before it is delivered: what is on the air now collides with its first attempt only.
            DrumWarren z = Warrens.withHares(Warrens.inARow(1, 5), 0, 1, 2, 2);
            z.say(2, 3, 8);
            z.passTicks(4);
            z.say(0, 1, 8);
            due(10, () -> z.ticksUntilDelivery(1));
            due(1, () -> z.passTicks(5));
            due(5, () -> z.ticksUntilDelivery(1));
            due(1, () -> z.passTicks(5));
        });
        test(33, "Throws `UnsupportedOperationException` if it is not delivered within 60 ticks", () -> {
            Supplier<DrumWarren> made = () -> queue(3, 4);
            refused(Check.UNSUPPORTED, made, x -> x.ticksUntilDelivery(6));
            due(60, () -> made.get().ticksUntilDelivery(5));
            DrumWarren x = made.get();
            x.passTicks(4);
            due(Check.UNSUPPORTED, () -> x.ticksUntilDelivery(6));
            x.passTicks(1);
            due(60, () -> x.ticksUntilDelivery(6));
            // Lost for the third time within the 60 ticks, or never to be heard.
            refused(Check.UNSUPPORTED, made, y -> y.ticksUntilDelivery(0));
            refused(Check.UNSUPPORTED, Warrens::busy, y -> y.ticksUntilDelivery(2));
        });
    }

    private static void ticksUntilDeliveryRefused() {
        test(33, "Throws `NoSuchElementException` if there is no such message",
                () -> refusedWithoutMessage(DrumWarren::ticksUntilDelivery));
        test(33, "Throws `IllegalStateException` if it was delivered or is lost", () -> {
            refused(Check.STATE, () -> saidAndPassed(5), x -> x.ticksUntilDelivery(0));
            refused(Check.STATE, () -> saidAndPassed(40), x -> x.ticksUntilDelivery(1));
            due(1, () -> saidAndPassed(4).ticksUntilDelivery(0));
            DrumWarren x = said(1);
            x.setListening(1, false);
            x.passTicks(14);
            due(Check.UNSUPPORTED, () -> x.ticksUntilDelivery(0));
            x.passTicks(1);
            due(Check.STATE, () -> x.ticksUntilDelivery(0));
        });
    }
}
