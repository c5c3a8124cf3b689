import java.util.function.Supplier;

/** The boundary cases of the promises 34 to 39: ticks and thumps. */
final class TickEdgesTest extends SentenceTests {
    private TickEdgesTest() {
    }

    static void run() {
        passTicks();
        ticks();
        heardOrWillBe();
        drummedSoFar();
        manyTicks();
        thumpsHeardRefused();
        thumpsDrummed();
        deliveries();
        losses();
    }

    private static DrumWarren together() {
        return Warrens.withHares(Warrens.withChambers(1), 0, 0);
    }

    /** One thump is heard in chamber 0 in tick 0 and another one in tick 4, so many ticks ago. */
    private static DrumWarren drummed(int ticks) {
        DrumWarren x = together();
        x.say(0, 1, 8);
        for (int left = ticks; left > 0; left -= 40) {
            x.passTicks(Math.min(40, left));
        }
        return x;
    }

    private static void passTicks() {
        test(34, "Returns the number of messages that are delivered in these ticks.", () -> {
            DrumWarren x = together();
            due(0, () -> x.passTicks(40));
            for (int i = 0; i < 8; i++) {
                x.say(0, 1, 15);
            }
            due(0, () -> x.passTicks(4));
            due(1, () -> x.passTicks(1));
            due(0, () -> x.passTicks(4));
            due(2, () -> x.passTicks(10));
            x.undo();
            due(7, () -> x.passTicks(31));
            due(0, () -> x.passTicks(40));
            DrumWarren all = together();
            for (int i = 0; i < 8; i++) {
                all.say(0, 1, 15);
            }
            due(8, () -> all.passTicks(40));
            // What is lost does not count.
            DrumWarren lost = together();
            lost.say(0, 1, 15);
            lost.setListening(1, false);
            due(0, () -> lost.passTicks(40));
        });
        test(34, "Throws `IllegalArgumentException` if ticks is not from 1 to 40", () -> {
            for (int ticks : new int[] {0, 41, -1, -40, 1 << 8, 1 << 16, Integer.MIN_VALUE, Integer.MAX_VALUE}) {
                refused(Check.ARGUMENT, Warrens::busy, x -> x.passTicks(ticks));
            }
            DrumWarren x = new DrumWarren();
            due(0, () -> x.passTicks(1));
            due(1, x::ticks);
            due(0, () -> x.passTicks(40));
            due(41, x::ticks);
        });
    }

    private static void ticks() {
        test(35, "Returns the number of ticks that have passed.", () -> {
            DrumWarren x = new DrumWarren();
            due(0, x::ticks);
            for (int passed = 1; passed <= 12; passed++) {
                x.passTicks(1);
                due(passed, x::ticks);
            }
            x.passTicks(40);
            due(52, x::ticks);
            Check.answer(() -> x.passTicks(41));
            Check.answer(() -> x.ticksUntilDelivery(0));
            due(52, x::ticks);
            for (int left = 11; left >= 5; left--) {
                x.undo();
                due(left + 1, x::ticks);
            }
        });
    }

    private static void heardOrWillBe() {
        test(36, "Returns the number of thumps that were or will be heard in a chamber in a tick.", () -> {
            // The earliest tick that can be asked for, in which a thump was heard.
            due(1, () -> drummed(20).thumpsHeard(0, 0));
            due(1, () -> drummed(24).thumpsHeard(0, 4));
            due(0, () -> drummed(20).thumpsHeard(0, 1));
            // The latest tick in which one can be heard, and the tick in which it is asked.
            DrumWarren x = Warrens.withHares(Warrens.inARow(9, 9, 9, 9, 9, 9, 9), 0, 7);
            x.say(0, 1, 8);
            x.passTicks(1);
            due(1, () -> x.thumpsHeard(7, 63));
            due(0, () -> x.thumpsHeard(7, 62));
            due(0, () -> x.thumpsHeard(7, 64));
            x.passTicks(40);
            x.passTicks(22);
            due(63, x::ticks);
            due(1, () -> x.thumpsHeard(7, 63));
            x.passTicks(20);
            due(1, () -> x.thumpsHeard(7, 63));
            // Several thumps of one tick, one from each of six chambers.
            DrumWarren all = Warrens.withHares(Warrens.withChambers(7), 0, 1, 2, 3, 4, 5);
            for (int chamber = 0; chamber < 6; chamber++) {
                all.addTunnel(chamber, 6, 3);
                all.say(chamber, (chamber + 1) % 6, 8);
            }
            all.passTicks(1);
            due(6, () -> all.thumpsHeard(6, 3));
            due(5, () -> all.thumpsHeard(0, 6));
            due(1, () -> all.thumpsHeard(0, 0));
        });
    }

    private static void drummedSoFar() {
        test(36, "Only thumps that were drummed so far count.", () -> {
            DrumWarren x = Warrens.withHares(Warrens.inARow(9), 0, 1);
            x.say(0, 1, 9);
            due(0, () -> x.thumpsHeard(0, 0));
            due(0, () -> x.thumpsHeard(1, 9));
            x.passTicks(1);
            due(1, () -> x.thumpsHeard(0, 0));
            due(1, () -> x.thumpsHeard(1, 9));
            x.passTicks(2);
            due(0, () -> x.thumpsHeard(0, 3));
            due(0, () -> x.thumpsHeard(1, 12));
            x.ticksUntilDelivery(0);
            due(0, () -> x.thumpsHeard(1, 12));
            x.passTicks(1);
            due(1, () -> x.thumpsHeard(0, 3));
            due(1, () -> x.thumpsHeard(1, 12));
            x.undo();
            due(0, () -> x.thumpsHeard(1, 12));
            // A chamber that is added later hears only what is drummed from then on.
            x.addChamber();
            x.addTunnel(0, 2, 3);
            due(0, () -> x.thumpsHeard(2, 3));
            x.passTicks(1);
            due(1, () -> x.thumpsHeard(2, 6));
        });
    }

    private static void manyTicks() {
        test(36, "Returns the number of thumps.", () -> {
            // However many ticks have passed, a thump is heard in its tick alone of all that can be asked for.
            for (int before : new int[] {0, 1, 27, 28, 47, 48, 63, 64, 107, 108, 127, 128, 255, 256, 4000}) {
                DrumWarren x = drummingAfter(before);
                for (int i = before - 19; i <= before + 81; i++) {
                    int tick = i;
                    due(tick == before + 7 ? 1 : 0, () -> x.thumpsHeard(1, tick));
                }
            }
            // Nearly as many ticks as can pass in the calls for which an object is promised.
            DrumWarren x = drummingAfter(19600);
            due(1, () -> x.thumpsHeard(1, 19607));
            due(0, () -> x.thumpsHeard(1, 19608));
            due(1, () -> x.passTicks(4));
            for (int i = 0; i <= 80; i += 20) {
                int tick = 19605 + i;
                due(0, () -> x.thumpsHeard(1, tick));
            }
            heardOnce();
        });
    }

    /** Thumps that were heard once are not heard again, however many ticks later, in the first and the last chamber. */
    private static void heardOnce() {
        for (int passes = 3; passes <= 10; passes++) {
            DrumWarren x = Warrens.withHares(Warrens.inARow(9, 9, 9, 9, 9, 9, 9), 0, 7);
            x.say(0, 1, 15);
            x.say(1, 0, 15);
            for (int i = 0; i < passes; i++) {
                x.passTicks(40);
            }
            for (int i = x.ticks() - 20; i <= x.ticks() + 80; i++) {
                int tick = i;
                due(0, () -> x.thumpsHeard(0, tick));
                due(0, () -> x.thumpsHeard(7, tick));
            }
        }
    }

    /** After so many ticks the first of four thumps is drummed, seven ticks from chamber 1. */
    private static DrumWarren drummingAfter(int ticks) {
        DrumWarren x = Warrens.withHares(Warrens.inARow(7), 0, 1);
        for (int left = ticks; left > 0; left -= 40) {
            x.passTicks(Math.min(40, left));
        }
        x.say(0, 1, 15);
        x.passTicks(1);
        return x;
    }

    private static void thumpsHeardRefused() {
        test(36, "Throws `IndexOutOfBoundsException` if there is no such chamber", () -> {
            for (int chambers : new int[] {0, 1, 8}) {
                for (int bad : outside(chambers)) {
                    refused(Check.INDEX, () -> Warrens.withChambers(chambers), x -> x.thumpsHeard(bad, 0));
                    refused(Check.INDEX, () -> Warrens.withChambers(chambers), x -> x.thumpsHeard(bad, 81));
                }
            }
            due(0, () -> Warrens.withChambers(8).thumpsHeard(7, 0));
        });
        test(36, "Throws `IllegalArgumentException` if tick is less than the number of ticks that have passed minus 20, or "
                + "greater than that number plus 80", () -> {
                    for (int i : new int[] {0, 1, 19, 20, 21, 79, 80, 81, 128, 1000}) {
                        int passed = i;
                        Supplier<DrumWarren> made = () -> drummed(passed);
                        refused(Check.ARGUMENT, made, x -> x.thumpsHeard(0, passed - 21));
                        refused(Check.ARGUMENT, made, x -> x.thumpsHeard(0, passed + 81));
                        refused(Check.ARGUMENT, made, x -> x.thumpsHeard(0, Integer.MIN_VALUE));
                        refused(Check.ARGUMENT, made, x -> x.thumpsHeard(0, Integer.MAX_VALUE));
                        due(passed == 20 ? 1 : 0, () -> made.get().thumpsHeard(0, passed - 20));
                        due(0, () -> made.get().thumpsHeard(0, passed + 80));
                    }
                    // The difference to the number of ticks does not wrap around.
                    refused(Check.ARGUMENT, () -> drummed(100), x -> x.thumpsHeard(0, Integer.MIN_VALUE + 99));
                    refused(Check.ARGUMENT, () -> drummed(100), x -> x.thumpsHeard(0, Integer.MIN_VALUE + 120));
                });
    }

    private static void thumpsDrummed() {
        test(37, "Returns the number of thumps that were drummed so far.", () -> {
            due(0, () -> new DrumWarren().thumpsDrummed());
            DrumWarren x = together();
            x.say(0, 1, 15);
            due(0, x::thumpsDrummed);
            for (int drummed = 1; drummed <= 4; drummed++) {
                x.passTicks(1);
                due(drummed, x::thumpsDrummed);
            }
            // The last beat of 15 and all beats of 0 are pauses.
            x.say(0, 1, 0);
            x.passTicks(20);
            due(4, x::thumpsDrummed);
            // Each attempt drums anew, also where nobody else hears it.
            DrumWarren y = Warrens.withHares(Warrens.withChambers(2), 0, 1);
            y.say(0, 1, 15);
            y.passTicks(40);
            due(12, y::thumpsDrummed);
            y.forget(0);
            due(12, y::thumpsDrummed);
        });
    }

    private static void deliveries() {
        test(38, "Returns the number of deliveries so far.", () -> {
            DrumWarren x = together();
            due(0, x::deliveries);
            for (int i = 0; i < 8; i++) {
                x.say(0, 1, i);
            }
            for (int delivered = 0; delivered < 8; delivered++) {
                due(delivered, x::deliveries);
                x.passTicks(4);
                due(delivered, x::deliveries);
                x.passTicks(1);
            }
            due(8, x::deliveries);
            x.forget(3);
            due(8, x::deliveries);
            x.undo();
            x.undo();
            due(7, x::deliveries);
        });
    }

    private static void losses() {
        test(39, "Returns the number of times that messages were lost so far.", () -> {
            DrumWarren x = together();
            x.say(0, 1, 1);
            x.say(0, 1, 2);
            x.setListening(1, false);
            for (int lost = 0; lost < 6; lost++) {
                due(lost, x::losses);
                x.passTicks(4);
                due(lost, x::losses);
                x.passTicks(1);
            }
            due(6, x::losses);
            x.passTicks(40);
            due(6, x::losses);
            x.forget(0);
            x.forget(1);
            due(6, x::losses);
            due(0, x::deliveries);
        });
    }
}
