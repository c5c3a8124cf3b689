/** The boundary cases of "Terms", from the chambers to the loudness. */
final class TermsEdgesTest extends SentenceTests {
    private TermsEdgesTest() {
    }

    static void run() {
        chambers();
        tunnels();
        hares();
        messages();
        codes();
        beginning();
        drumming();
        deciding();
        collisions();
        laterThumps();
        placeOfTheReceiver();
        delivery();
        losing();
        notes();
        loudness();
    }

    private static DrumWarren oneChamber(int hares) {
        return Warrens.withHares(Warrens.withChambers(1), new int[hares]);
    }

    private static DrumWarren pair(int delay) {
        return Warrens.withHares(Warrens.inARow(delay), 0, 1);
    }

    private static void chambers() {
        test(TERMS, "One hare drums in a chamber at a time.", () -> {
            DrumWarren x = oneChamber(3);
            x.say(0, 1, 1);
            x.say(1, 2, 1);
            x.say(2, 0, 1);
            String[] due = {"dww", "dww", "dww", "dww", "rww", "rdw", "rdw", "rdw", "rdw", "rrw", "rrd"};
            for (String states : due) {
                x.passTicks(1);
                due(states, () -> Warrens.states(x));
            }
        });
        test(TERMS, "There are at most 8 chambers; their indices start at 0 and follow the order in which they were added.",
                () -> {
                    DrumWarren x = new DrumWarren();
                    for (int i = 0; i < 8; i++) {
                        due(i, x::addChamber);
                    }
                    due(Check.STATE, x::addChamber);
                    due(8, x::chamberCount);
                    due(0, () -> x.addHare(0));
                    due(1, () -> x.addHare(7));
                    due(Check.INDEX, () -> x.addHare(8));
                });
    }

    private static void tunnels() {
        test(TERMS, "A tunnel joins two different chambers and has a delay from 1 to 9 ticks; "
                + "two chambers are joined by at most one tunnel.", () -> {
                    DrumWarren x = Warrens.withChambers(3);
                    due(Check.ARGUMENT, () -> x.addTunnel(1, 1, 5));
                    due(Check.ARGUMENT, () -> x.addTunnel(0, 1, 0));
                    due(Check.ARGUMENT, () -> x.addTunnel(0, 1, 10));
                    due(1, () -> x.addTunnel(0, 1, 1));
                    due(2, () -> x.addTunnel(0, 2, 9));
                    due(Check.STATE, () -> x.addTunnel(0, 1, 1));
                    due(Check.STATE, () -> x.addTunnel(1, 0, 9));
                    due(2, x::tunnelCount);
                    due(1, () -> x.tunnelDelay(0, 1));
                });
        test(TERMS, "Tunnels have no direction.", () -> {
            DrumWarren x = Warrens.withHares(Warrens.withChambers(2), 0, 1);
            x.addTunnel(1, 0, 4);
            due(4, () -> x.tunnelDelay(0, 1));
            due(4, () -> x.tunnelDelay(1, 0));
            due(4, () -> x.shortestDelay(0, 1));
            due(4, () -> x.shortestDelay(1, 0));
            x.say(0, 1, 8);
            x.passTicks(5);
            due(1, () -> x.thumpsHeard(1, 4));
            x.say(1, 0, 8);
            x.passTicks(5);
            due(1, () -> x.thumpsHeard(0, 9));
            due(4, () -> x.removeTunnel(0, 1));
            due(Check.ELEMENT, () -> x.tunnelDelay(1, 0));
        });
    }

    private static void hares() {
        test(TERMS, "There are at most 6 hares; their indices start at 0 and follow the order in which they were added.",
                () -> {
                    DrumWarren x = Warrens.withChambers(6);
                    for (int i = 0; i < 6; i++) {
                        int hare = i;
                        due(hare, () -> x.addHare(5 - hare));
                    }
                    due(Check.STATE, () -> x.addHare(0));
                    due(6, x::hareCount);
                    due(5, () -> x.chamberOf(0));
                    due(0, () -> x.chamberOf(5));
                    due(Check.INDEX, () -> x.chamberOf(6));
                });
        test(TERMS, "A hare is in one chamber; several hares can be in the same one.", () -> {
            DrumWarren x = Warrens.withHares(Warrens.withChambers(8), 7, 7, 7, 7, 7, 7);
            for (int i = 0; i < 6; i++) {
                int hare = i;
                due(7, () -> x.chamberOf(hare));
            }
            x.move(3, 0);
            due(0, () -> x.chamberOf(3));
            due(7, () -> x.chamberOf(2));
            due(7, () -> x.chamberOf(4));
        });
        test(TERMS, "A hare listens or does not; at first it listens.", () -> {
            DrumWarren x = oneChamber(6);
            for (int i = 0; i < 6; i++) {
                int hare = i;
                due(true, () -> x.isListening(hare));
                due(true, () -> x.setListening(hare, false));
                due(false, () -> x.isListening(hare));
            }
            DrumWarren after = oneChamber(1);
            after.setListening(0, false);
            after.addHare(0);
            due(true, () -> after.isListening(1));
        });
    }

    private static void messages() {
        test(TERMS, "A message has a sender, a receiver, which is another hare, and a number from 0 to 15.", () -> {
            DrumWarren x = oneChamber(6);
            due(0, () -> x.say(0, 5, 0));
            due("0:0>5=0w", () -> Warrens.written(x, 0));
            due(1, () -> x.say(5, 0, 15));
            due("1:5>0=15w", () -> Warrens.written(x, 1));
            due(Check.ARGUMENT, () -> x.say(0, 0, 0));
            due(Check.ARGUMENT, () -> x.say(5, 5, 15));
            due(Check.ARGUMENT, () -> x.say(0, 5, -1));
            due(Check.ARGUMENT, () -> x.say(0, 5, 16));
        });
        test(TERMS, "At most 8 messages exist; their ids are given in ascending order, beginning with 0, "
                + "and are not given again.", () -> {
                    DrumWarren x = oneChamber(2);
                    for (int i = 0; i < 8; i++) {
                        due(i, () -> x.say(0, 1, 1));
                    }
                    due(Check.STATE, () -> x.say(0, 1, 1));
                    due(7, () -> x.forget(7));
                    due(8, () -> x.say(0, 1, 1));
                    due(Check.STATE, () -> x.say(0, 1, 1));
                    due(7, () -> x.forget(0));
                    due(9, () -> x.say(0, 1, 1));
                    for (int id : new int[] {1, 2, 3, 4, 5, 6, 8, 9}) {
                        x.forget(id);
                    }
                    due(0, x::messageCount);
                    due(10, () -> x.say(0, 1, 1));
                });
        test(TERMS, "A message waits, is being drummed, was delivered, or is lost.", () -> {
            DrumWarren x = pair(1);
            x.say(0, 1, 1);
            x.say(0, 1, 1);
            x.setListening(1, false);
            StringBuilder states = new StringBuilder();
            for (int tick = 0; tick < 22; tick++) {
                if (tick == 16) {
                    x.setListening(1, true);
                }
                states.append(Warrens.states(x)).append(' ');
                x.passTicks(1);
            }
            due("ww dw dw dw dw ww dw dw dw dw ww dw dw dw dw lw ld ld ld ld lr lr ", states::toString);
        });
    }

    private static void codes() {
        test(TERMS, "Its code consists of 5 beats: the four binary digits of the number, the most significant one first, "
                + "and a last beat, so that the number of beats that are 1 is even.", () -> {
                    DrumWarren x = new DrumWarren();
                    for (int i = 0; i < 16; i++) {
                        int number = i;
                        due((number & 8) != 0, () -> x.isThump(number, 0));
                        due((number & 4) != 0, () -> x.isThump(number, 1));
                        due((number & 2) != 0, () -> x.isThump(number, 2));
                        due((number & 1) != 0, () -> x.isThump(number, 3));
                        due(Integer.bitCount(number) % 2 == 1, () -> x.isThump(number, 4));
                        due(Check.INDEX, () -> x.isThump(number, 5));
                    }
                });
        test(TERMS, "A beat that is 1 is a thump, and a beat that is 0 is a pause.", () -> {
            for (int number = 0; number < 16; number++) {
                int said = number;
                DrumWarren x = oneChamber(2);
                x.say(0, 1, said);
                x.passTicks(5);
                for (int i = 0; i < 5; i++) {
                    int beat = i;
                    due(x.isThump(said, beat) ? 1 : 0, () -> x.thumpsHeard(0, beat));
                }
                due(Integer.bitCount(said) + Integer.bitCount(said) % 2, x::thumpsDrummed);
            }
        });
    }

    private static void beginning() {
        test(TERMS, "In each tick, the following happens in this order.", () -> {
            // Beginning comes before deciding: the next message does not begin in the tick of the decision.
            DrumWarren x = oneChamber(2);
            x.say(0, 1, 1);
            x.say(0, 1, 1);
            x.passTicks(5);
            due("rw", () -> Warrens.states(x));
            // All drum before one is decided: message 1 drums its first thump in the tick in which 0 is decided.
            DrumWarren y = Warrens.withHares(Warrens.inARow(6, 6), 0, 1, 2);
            y.say(0, 1, 1);
            y.passTicks(4);
            y.say(2, 1, 8);
            due(0, () -> y.passTicks(1));
            due("wd", () -> Warrens.states(y));
        });
        test(TERMS, "First, for each chamber in which no message is being drummed, the waiting message with the smallest id "
                + "whose sender is in this chamber begins to be drummed.", () -> {
                    DrumWarren x = Warrens.withHares(Warrens.withChambers(2), 0, 0, 1, 0);
                    x.say(2, 1, 1);
                    x.say(1, 3, 1);
                    x.say(0, 1, 1);
                    x.say(2, 1, 1);
                    x.passTicks(1);
                    due("ddww", () -> Warrens.states(x));
                    // The hare of message 2 goes where one is being drummed already.
                    x.move(0, 1);
                    x.passTicks(1);
                    due("ddww", () -> Warrens.states(x));
                    // Message 0 is lost (there is no way) and is again the smallest one of its chamber.
                    x.passTicks(3);
                    due("wrww", () -> Warrens.states(x));
                    x.passTicks(1);
                    due("drww", () -> Warrens.states(x));
                    // In a chamber of its own message 2 begins at once, though a smaller id is being drummed elsewhere.
                    x.move(0, 0);
                    x.passTicks(1);
                    due("drdw", () -> Warrens.states(x));
                });
        test(TERMS, "Fourth, the number of ticks increases by 1.", () -> {
            DrumWarren x = oneChamber(2);
            x.say(0, 1, 8);
            due(0, x::ticks);
            x.passTicks(1);
            due(1, x::ticks);
            // The first beat was drummed in tick 0, before the increase.
            due(1, () -> x.thumpsHeard(0, 0));
            due(0, () -> x.thumpsHeard(0, 1));
            x.passTicks(40);
            due(41, x::ticks);
        });
        test(TERMS, "The chamber of a sender cannot change while its message is being drummed.", () -> {
            DrumWarren x = pair(1);
            x.say(0, 1, 1);
            due(0, () -> x.move(0, 0));
            for (int beats = 1; beats <= 4; beats++) {
                x.passTicks(1);
                due(Check.STATE, () -> x.move(0, 1));
                due(Check.STATE, () -> x.move(0, 0));
                due(Check.UNSUPPORTED, () -> Warrens.executeText(x, "go 0@1"));
                due(0, () -> x.chamberOf(0));
            }
            x.passTicks(1);
            due(0, () -> x.move(0, 1));
        });
    }

    private static void drumming() {
        test(TERMS, "Second, each message that is being drummed drums its next beat, the first one in the tick in which it "
                + "begins; a thump is heard in the chamber of the sender at once, and in each other chamber after the "
                + "shortest delay from the chamber of the sender to it by the tunnels as they are in this tick; it is not "
                + "heard there if there is no way.", () -> {
                    DrumWarren x = Warrens.withHares(Warrens.inARow(9, 9, 9, 9, 9, 9, 9), 0, 7);
                    x.say(0, 1, 15);
                    x.passTicks(1);
                    due(1, () -> x.beatsDrummed(0));
                    for (int chamber = 0; chamber < 8; chamber++) {
                        int asked = chamber;
                        due(1, () -> x.thumpsHeard(asked, 9 * asked));
                        due(0, () -> x.thumpsHeard(asked, 9 * asked + 1));
                    }
                    x.addTunnel(0, 7, 2);
                    x.passTicks(1);
                    due(2, () -> x.beatsDrummed(0));
                    due(1, () -> x.thumpsHeard(7, 1 + 2));
                    due(1, () -> x.thumpsHeard(6, 1 + 11));
                    due(1, () -> x.thumpsHeard(4, 1 + 29));
                    due(1, () -> x.thumpsHeard(3, 1 + 27));
                    x.removeTunnel(0, 7);
                    x.removeTunnel(3, 4);
                    x.passTicks(1);
                    due(1, () -> x.thumpsHeard(3, 2 + 27));
                    due(0, () -> x.thumpsHeard(4, 2 + 36));
                    due(0, () -> x.thumpsHeard(7, 2 + 2));
                    due(0, () -> x.thumpsHeard(7, 2 + 63));
                    // What was drummed before is heard all the same.
                    due(1, () -> x.thumpsHeard(7, 63));
                });
    }

    private static void deciding() {
        test(TERMS, "Third, for each message whose last beat was drummed in this tick, its delivery is decided.", () -> {
            DrumWarren x = Warrens.withHares(Warrens.inARow(1), 0, 1);
            x.say(0, 1, 0);
            x.say(1, 0, 0);
            x.passTicks(4);
            due("dd", () -> Warrens.states(x));
            due(2, () -> x.passTicks(1));
            due("rr", () -> Warrens.states(x));
            // What holds in this tick decides: it listens too late, and then from the last moment on.
            DrumWarren y = pair(9);
            y.say(0, 1, 8);
            y.passTicks(4);
            y.setListening(1, false);
            y.passTicks(1);
            due(1, () -> y.timesLost(0));
            y.setListening(1, false);
            y.passTicks(4);
            y.setListening(1, true);
            due(1, () -> y.passTicks(1));
        });
        test(TERMS, "Several deliveries of one tick are decided in ascending order of the ids.", () -> {
            for (int first = 0; first < 2; first++) {
                DrumWarren x = Warrens.withHares(Warrens.inARow(1), 0, 1, 0);
                x.say(first, 2, 0);
                x.say(1 - first, 2, 9);
                due(2, () -> x.passTicks(5));
                due(9, () -> x.latestNumber(2));
                DrumWarren y = Warrens.withHares(Warrens.inARow(1), 0, 1, 0);
                y.say(first, 2, 9);
                y.say(1 - first, 2, 0);
                due(2, () -> y.passTicks(5));
                due(0, () -> y.latestNumber(2));
            }
        });
    }

    private static void collisions() {
        test(TERMS, "A thump collides if another thump is heard in the chamber of the receiver in the same tick as this "
                + "thump is heard there.", () -> {
                    // Both numbers are drummed x...x, so that they collide at a distance of 0 or 4 ticks and at no other.
                    for (int delay = 1; delay <= 9; delay++) {
                        boolean collide = delay == 5 || delay == 1 || delay == 9;
                        DrumWarren x = Warrens.withHares(Warrens.inARow(5, delay), 0, 1, 2);
                        x.say(0, 1, 8);
                        x.say(2, 1, 8);
                        due(collide ? 0 : 2, () -> x.passTicks(5));
                        due(collide ? "ww" : "rr", () -> Warrens.states(x));
                    }
                    // In another chamber than that of the receiver they do no harm: 1 and 2 are heard together in 1.
                    DrumWarren apart = Warrens.withHares(Warrens.inARow(5, 5), 0, 2, 0);
                    apart.say(0, 1, 8);
                    apart.say(1, 2, 8);
                    due(2, () -> apart.passTicks(5));
                    due(2, () -> apart.thumpsHeard(1, 5));
                });
        test(TERMS, "Another thump can belong to the same message.", () -> {
            // The first two beats are thumps: the second one is heard as many ticks later as the way got shorter.
            for (int shorter = 0; shorter <= 3; shorter++) {
                int delay = 5 - shorter;
                DrumWarren x = pair(5);
                x.say(0, 1, 12);
                x.passTicks(1);
                x.removeTunnel(0, 1);
                x.addTunnel(0, 1, delay);
                due(shorter == 1 ? 0 : 1, () -> x.passTicks(4));
                due(shorter == 1 ? 2 : 1, () -> x.thumpsHeard(1, 1 + delay));
            }
        });
    }

    private static void laterThumps() {
        test(TERMS, "Thumps that will be heard there later than the tick in which the delivery is decided count as well, "
                + "if they were drummed already.", () -> {
                    // Message 0 is decided in tick 4, its last thump is heard in tick 13.
                    DrumWarren drummed = Warrens.withHares(Warrens.inARow(9, 9), 0, 1, 2);
                    drummed.say(0, 1, 8);
                    drummed.passTicks(4);
                    drummed.say(2, 1, 8);
                    due(0, () -> drummed.passTicks(1));
                    due(2, () -> drummed.thumpsHeard(1, 13));
                    // Drummed a tick later, it comes too late to collide for 0, and collides itself.
                    DrumWarren late = Warrens.withHares(Warrens.inARow(9, 8), 0, 1, 2);
                    late.say(0, 1, 8);
                    late.passTicks(4);
                    due(1, () -> late.passTicks(1));
                    late.say(2, 1, 8);
                    due(0, () -> late.passTicks(5));
                    due(2, () -> late.thumpsHeard(1, 13));
                    due("rw", () -> Warrens.states(late));
                    // Thumps that are heard in the very tick of the decision count too.
                    DrumWarren atOnce = Warrens.withHares(Warrens.inARow(4), 0, 1, 1);
                    atOnce.say(0, 1, 8);
                    atOnce.say(2, 1, 8);
                    due(0, () -> atOnce.passTicks(5));
                    due(2, () -> atOnce.thumpsHeard(1, 4));
                });
    }

    private static void placeOfTheReceiver() {
        test(TERMS, "The chamber of the receiver is the one in which it is when the delivery is decided; it can be that of "
                + "the sender.", () -> {
                    DrumWarren moves = pair(3);
                    moves.say(0, 1, 15);
                    moves.passTicks(4);
                    moves.move(1, 0);
                    due(1, () -> moves.passTicks(1));
                    DrumWarren same = oneChamber(2);
                    same.say(0, 1, 15);
                    due(1, () -> same.passTicks(5));
                    // It moves in the last moment to where no way leads, and to where the thumps collide.
                    DrumWarren away = Warrens.withHares(Warrens.withChambers(2), 0, 0);
                    away.say(0, 1, 15);
                    away.passTicks(4);
                    away.move(1, 1);
                    due(0, () -> away.passTicks(1));
                    DrumWarren noise = Warrens.withHares(Warrens.inARow(2, 4), 0, 2, 0);
                    noise.say(0, 2, 8);
                    noise.say(1, 0, 8);
                    noise.passTicks(4);
                    noise.move(2, 1);
                    due(1, () -> noise.thumpsHeard(1, 2));
                    due(1, () -> noise.thumpsHeard(1, 4));
                    due(2, () -> noise.passTicks(1));
                    DrumWarren noisy = Warrens.withHares(Warrens.inARow(3, 3), 0, 2, 0);
                    noisy.say(0, 2, 8);
                    noisy.say(1, 0, 8);
                    noisy.passTicks(4);
                    noisy.move(2, 1);
                    due(1, () -> noisy.passTicks(1));
                    due("wr", () -> Warrens.states(noisy));
                });
    }

    private static void delivery() {
        test(TERMS, "A message is delivered if the receiver listens, there is a way of tunnels from the chamber of the "
                + "sender to that of the receiver, each of its thumps was or will be heard in the chamber of the receiver, "
                + "and none of them collides.", () -> {
                    DrumWarren all = pair(9);
                    all.say(0, 1, 15);
                    due(1, () -> all.passTicks(5));
                    DrumWarren asleep = pair(9);
                    asleep.say(0, 1, 15);
                    asleep.setListening(1, false);
                    due(0, () -> asleep.passTicks(5));
                    // Every thump is on its way to the receiver, but the way is closed when it is decided.
                    DrumWarren closed = pair(9);
                    closed.say(0, 1, 15);
                    closed.passTicks(4);
                    closed.removeTunnel(0, 1);
                    due(0, () -> closed.passTicks(1));
                    // A number without thumps needs a way too, and nothing else.
                    DrumWarren silent = Warrens.withHares(Warrens.withChambers(2), 0, 1);
                    silent.say(0, 1, 0);
                    due(0, () -> silent.passTicks(5));
                    silent.passTicks(4);
                    silent.addTunnel(0, 1, 1);
                    due(1, () -> silent.passTicks(1));
                    collidesOnce();
                    heardInTheAttemptBefore();
                    heardFromAnotherHare(0);
                    heardFromAnotherHare(127);
                    for (int beat = 0; beat < 4; beat++) {
                        unheardThump(beat);
                    }
                });
    }

    /** Of the four thumps of the number 15 only one is drummed while there is no way. */
    private static void unheardThump(int beat) {
        DrumWarren x = pair(1);
        x.say(0, 1, 15);
        if (beat > 0) {
            x.passTicks(beat);
        }
        x.removeTunnel(0, 1);
        x.passTicks(1);
        x.addTunnel(0, 1, 1);
        due(0, () -> x.passTicks(4 - beat));
        due("0:0>1=15w!", () -> Warrens.written(x, 0));
    }

    /** In the second attempt the first thump is not heard; that it was heard in the first attempt does not help. */
    private static void heardInTheAttemptBefore() {
        DrumWarren x = pair(1);
        x.say(0, 1, 8);
        x.setListening(1, false);
        x.passTicks(5);
        x.setListening(1, true);
        x.removeTunnel(0, 1);
        x.passTicks(1);
        x.addTunnel(0, 1, 1);
        due(0, () -> x.passTicks(4));
        due("0:0>1=8w!!", () -> Warrens.written(x, 0));
    }

    /** A thump that is not heard is not made up for by one of another hare, in whichever tick that was. */
    private static void heardFromAnotherHare(int ticks) {
        DrumWarren x = Warrens.withHares(Warrens.withChambers(2), 0, 1, 1);
        for (int left = ticks; left > 0; left -= 40) {
            x.passTicks(Math.min(40, left));
        }
        x.say(2, 1, 8);
        due(1, () -> x.passTicks(5));
        x.say(0, 1, 8);
        x.passTicks(1);
        x.addTunnel(0, 1, 1);
        due(0, () -> x.passTicks(4));
        due("1:0>1=8w!", () -> Warrens.written(x, 1));
    }

    /** The thumps of message 0 are heard in 1, 2, 3, 4, that of message 1 drummed last in 4. */
    private static void collidesOnce() {
        DrumWarren x = Warrens.withHares(Warrens.inARow(1, 1), 0, 1, 2);
        x.say(0, 1, 15);
        x.passTicks(3);
        x.say(2, 1, 8);
        due(0, () -> x.passTicks(2));
        due("wd", () -> Warrens.states(x));
        DrumWarren y = Warrens.withHares(Warrens.inARow(1, 2), 0, 1, 2);
        y.say(0, 1, 15);
        y.passTicks(3);
        y.say(2, 1, 8);
        due(1, () -> y.passTicks(2));
    }

    private static void losing() {
        test(TERMS, "Otherwise it is lost: a message that was lost for the first or the second time waits again, and one "
                + "that was lost for the third time stays lost.", () -> {
                    DrumWarren x = pair(1);
                    x.say(0, 1, 15);
                    x.setListening(1, false);
                    String[] due = {"0:0>1=15w!", "0:0>1=15w!!", "0:0>1=15l!!!", "0:0>1=15l!!!"};
                    for (String written : due) {
                        due(0, () -> x.passTicks(5));
                        due(written, () -> Warrens.written(x, 0));
                    }
                    x.setListening(1, true);
                    due(0, () -> x.passTicks(40));
                    due("0:0>1=15l!!!", () -> Warrens.written(x, 0));
                    due(12, x::thumpsDrummed);
                    due(3, x::losses);
                    // The third attempt can still succeed.
                    DrumWarren y = pair(1);
                    y.say(0, 1, 15);
                    y.setListening(1, false);
                    y.passTicks(10);
                    y.setListening(1, true);
                    due(1, () -> y.passTicks(5));
                    due("0:0>1=15r!!", () -> Warrens.written(y, 0));
                });
    }

    private static void notes() {
        test(TERMS, "Messages that were delivered or are lost exist until they are forgotten.", () -> {
            DrumWarren x = oneChamber(3);
            x.setListening(2, false);
            for (int i = 0; i < 8; i++) {
                x.say(0, i % 4 == 0 ? 2 : 1, 1);
            }
            x.passTicks(40);
            x.passTicks(40);
            due("lrrrlrrr", () -> Warrens.states(x));
            due(Check.STATE, () -> x.say(0, 1, 1));
            due(7, () -> x.forget(0));
            due(8, () -> x.say(0, 1, 1));
            due(Check.STATE, () -> x.say(0, 1, 1));
            due(7, () -> x.forget(7));
            due(Check.ELEMENT, () -> x.state(7));
            due(9, () -> x.say(0, 1, 1));
        });
        test(TERMS, "From a chamber to itself there is a way, with the delay 0.", () -> {
            DrumWarren x = Warrens.withChambers(8);
            for (int i = 0; i < 8; i++) {
                int chamber = i;
                due(0, () -> x.shortestDelay(chamber, chamber));
                due(0, () -> x.shortestDelayBySearch(chamber, chamber));
                due(1.0f, () -> x.loudness(chamber, chamber));
            }
            Warrens.withHares(x, 7, 7);
            x.say(0, 1, 8);
            due(1, () -> x.passTicks(5));
            due(1, () -> x.thumpsHeard(7, 0));
        });
    }

    private static void loudness() {
        test(TERMS, "The loudness of a thump in a chamber is 1.0f in the chamber of the sender, and otherwise "
                + "1.0f / (1.0f + d), where d is the shortest delay, converted to float.", () -> {
                    DrumWarren x = Warrens.inARow(9, 9, 9, 9, 9, 9, 9);
                    for (int i = 0; i < 8; i++) {
                        int to = i;
                        due(1.0f / (1.0f + 9 * to), () -> x.loudness(0, to));
                    }
                    DrumWarren y = Warrens.inARow(1, 2);
                    due(0.5f, () -> y.loudness(0, 1));
                    due(1.0f / 3.0f, () -> y.loudness(2, 1));
                    y.addTunnel(0, 2, 2);
                    due(1.0f / 3.0f, () -> y.loudness(0, 2));
                });
    }
}
