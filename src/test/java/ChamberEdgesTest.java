import java.util.function.Supplier;

/** The boundary cases of the promises 1 to 11: a new object, chambers and tunnels. */
final class ChamberEdgesTest extends SentenceTests {
    /** A call with two chambers. */
    interface PairAct {
        Object on(DrumWarren warren, int first, int second);
    }

    private ChamberEdgesTest() {
    }

    static void run() {
        newObject();
        addChamber();
        addTunnel();
        addTunnelRefused();
        removeTunnel();
        removeTunnelRefused();
        counts();
        tunnelDelay();
        shortestDelay();
        shortestDelayBySearch();
        loudness();
        loudnessBits();
    }

    /** Each of the two chambers alone and both together are none of the warren's, or there are none at all. */
    private static void refusedWithoutChamber(PairAct act) {
        for (int chambers : new int[] {0, 1, 2, 8}) {
            Supplier<DrumWarren> made = () -> Warrens.withChambers(chambers);
            for (int bad : outside(chambers)) {
                refused(Check.INDEX, made, x -> act.on(x, bad, 0));
                refused(Check.INDEX, made, x -> act.on(x, 0, bad));
                refused(Check.INDEX, made, x -> act.on(x, bad, bad));
            }
        }
    }

    private static void newObject() {
        test(1, "Creates a warren without chambers and hares at tick 0.", () -> {
            DrumWarren x = new DrumWarren();
            due(0, x::chamberCount);
            due(0, x::hareCount);
            due(0, x::ticks);
            due(0, x::tunnelCount);
            due(0, x::messageCount);
            due(0, x::undoCount);
            due(Check.INDEX, () -> x.addHare(0));
            due(Check.INDEX, () -> x.chamberOf(0));
            due(Check.INDEX, () -> x.thumpsHeard(0, 0));
            due(0, x::addChamber);
            due(0, () -> x.addHare(0));
            due(0, () -> x.thumpsHeard(0, 0));
        });
    }

    private static void addChamber() {
        test(2, "Returns the index of the chamber.", () -> {
            DrumWarren x = new DrumWarren();
            due(0, x::addChamber);
            x.undo();
            due(0, x::addChamber);
            for (int i = 1; i < 8; i++) {
                due(i, x::addChamber);
            }
            x.undo();
            due(7, x::addChamber);
        });
        test(2, "Throws `IllegalStateException` if there are 8 chambers", () -> {
            due(7, () -> Warrens.withChambers(7).addChamber());
            refused(Check.STATE, () -> Warrens.withChambers(8), DrumWarren::addChamber);
            refused(Check.STATE, Warrens::full, DrumWarren::addChamber);
            DrumWarren x = Warrens.withChambers(8);
            due(Check.STATE, x::addChamber);
            due(Check.STATE, x::addChamber);
            due(8, x::chamberCount);
        });
    }

    private static void addTunnel() {
        test(3, "Returns the number of tunnels afterwards.", () -> {
            DrumWarren x = Warrens.withChambers(8);
            int tunnels = 0;
            for (int first = 0; first < 8; first++) {
                for (int second = first + 1; second < 8; second++) {
                    int a = first;
                    int b = second;
                    tunnels++;
                    due(tunnels, () -> x.addTunnel(b, a, 9));
                }
            }
            due(28, x::tunnelCount);
            x.removeTunnel(0, 7);
            due(28, () -> x.addTunnel(0, 7, 1));
        });
        test(3, "Throws `IllegalArgumentException` if both are the same chamber, or delay is not from 1 to 9", () -> {
            Supplier<DrumWarren> made = () -> Warrens.inARow(5, 5, 5, 5, 5, 5, 5);
            for (int i = 0; i < 8; i++) {
                int chamber = i;
                refused(Check.ARGUMENT, made, x -> x.addTunnel(chamber, chamber, 5));
            }
            for (int delay : new int[] {0, 10, -1, -9, 256 + 5, Integer.MIN_VALUE, Integer.MAX_VALUE}) {
                refused(Check.ARGUMENT, made, x -> x.addTunnel(0, 2, delay));
                refused(Check.ARGUMENT, made, x -> x.addTunnel(0, 1, delay));
            }
            for (int i = 1; i <= 9; i++) {
                int delay = i;
                DrumWarren x = made.get();
                due(8, () -> x.addTunnel(2, 0, delay));
                due(delay, () -> x.tunnelDelay(0, 2));
            }
        });
    }

    private static void addTunnelRefused() {
        test(3, "Throws `IndexOutOfBoundsException` if there is no such chamber, for either", () -> {
            refusedWithoutChamber((x, first, second) -> x.addTunnel(first, second, 1));
            refused(Check.INDEX, Warrens::full, x -> x.addTunnel(0, 8, 1));
            refused(Check.INDEX, Warrens::full, x -> x.addTunnel(8, 8, 0));
            due(1, () -> Warrens.withChambers(8).addTunnel(7, 0, 1));
        });
        test(3, "Throws `IllegalStateException` if they are joined by a tunnel", () -> {
            Supplier<DrumWarren> made = () -> Warrens.inARow(1, 9);
            refused(Check.STATE, made, x -> x.addTunnel(0, 1, 1));
            refused(Check.STATE, made, x -> x.addTunnel(1, 0, 9));
            refused(Check.STATE, made, x -> x.addTunnel(2, 1, 9));
            refused(Check.STATE, Warrens::full, x -> x.addTunnel(7, 6, 1));
            DrumWarren x = made.get();
            due(3, () -> x.addTunnel(0, 2, 1));
            x.removeTunnel(0, 1);
            due(3, () -> x.addTunnel(1, 0, 1));
            x.undo();
            due(3, () -> x.addTunnel(0, 1, 2));
            due(Check.STATE, () -> x.addTunnel(0, 1, 2));
        });
    }

    private static void removeTunnel() {
        test(4, "Removes the tunnel between two chambers.", () -> {
            DrumWarren x = Warrens.full();
            due(1, () -> x.removeTunnel(7, 2));
            due(27, x::tunnelCount);
            due(Check.ELEMENT, () -> x.tunnelDelay(2, 7));
            due(Check.ELEMENT, () -> x.tunnelDelay(7, 2));
            due(9, () -> x.tunnelDelay(7, 1));
            due(2, () -> x.tunnelDelay(7, 3));
            due(9, () -> x.tunnelDelay(6, 2));
            // The only tunnel of a warren.
            DrumWarren y = Warrens.inARow(9);
            due(9, () -> y.removeTunnel(1, 0));
            due(0, y::tunnelCount);
            due(Check.ELEMENT, () -> y.shortestDelay(0, 1));
            due(1, () -> y.addTunnel(0, 1, 1));
        });
        test(4, "Thumps that were drummed before stay on their way.", () -> {
            DrumWarren x = Warrens.withHares(Warrens.inARow(9), 0, 1);
            x.say(0, 1, 12);
            x.passTicks(1);
            x.removeTunnel(0, 1);
            x.passTicks(1);
            due(1, () -> x.thumpsHeard(1, 9));
            due(0, () -> x.thumpsHeard(1, 10));
            x.passTicks(7);
            due(1, () -> x.thumpsHeard(1, 9));
            x.passTicks(20);
            due(1, () -> x.thumpsHeard(1, 9));
            // They still collide: message 1 is heard in tick 9 too.
            DrumWarren y = Warrens.withHares(Warrens.inARow(9, 5), 0, 1, 2);
            y.say(0, 1, 8);
            y.passTicks(4);
            y.say(2, 1, 8);
            y.removeTunnel(0, 1);
            due(0, () -> y.passTicks(5));
            due(2, () -> y.thumpsHeard(1, 9));
            due(1, () -> y.timesLost(1));
        });
        test(4, "Returns the delay of the tunnel.", () -> {
            DrumWarren x = Warrens.inARow(1, 9, 5);
            due(9, () -> x.removeTunnel(1, 2));
            due(1, () -> x.removeTunnel(1, 0));
            due(5, () -> x.removeTunnel(3, 2));
        });
    }

    private static void removeTunnelRefused() {
        test(4, "Throws `IndexOutOfBoundsException` if there is no such chamber, for either", () -> {
            refusedWithoutChamber(DrumWarren::removeTunnel);
            refused(Check.INDEX, Warrens::full, x -> x.removeTunnel(7, 8));
            refused(Check.INDEX, Warrens::full, x -> x.removeTunnel(-1, 0));
        });
        test(4, "Throws `NoSuchElementException` if there is no tunnel between them", () -> {
            Supplier<DrumWarren> made = () -> Warrens.inARow(4, 4);
            refused(Check.ELEMENT, made, x -> x.removeTunnel(0, 2));
            refused(Check.ELEMENT, made, x -> x.removeTunnel(2, 0));
            refused(Check.ELEMENT, made, x -> x.removeTunnel(1, 1));
            DrumWarren x = made.get();
            x.removeTunnel(0, 1);
            due(Check.ELEMENT, () -> x.removeTunnel(0, 1));
            due(Check.ELEMENT, () -> x.removeTunnel(1, 0));
            x.undo();
            due(4, () -> x.removeTunnel(1, 0));
        });
    }

    private static void counts() {
        test(5, "Returns the number of chambers.", () -> {
            DrumWarren x = new DrumWarren();
            due(0, x::chamberCount);
            for (int i = 1; i <= 8; i++) {
                x.addChamber();
                due(i, x::chamberCount);
            }
            Check.answer(x::addChamber);
            due(8, x::chamberCount);
            x.undo();
            due(7, x::chamberCount);
        });
        test(6, "Returns the number of tunnels.", () -> {
            due(0, () -> new DrumWarren().tunnelCount());
            DrumWarren x = Warrens.full();
            due(28, x::tunnelCount);
            int left = 28;
            for (int first = 0; first < 8; first++) {
                for (int second = 0; second < first; second++) {
                    x.removeTunnel(second, first);
                    left--;
                    due(left, x::tunnelCount);
                }
            }
            Check.answer(() -> x.removeTunnel(0, 1));
            due(0, x::tunnelCount);
        });
    }

    private static void tunnelDelay() {
        test(7, "Returns the delay.", () -> {
            DrumWarren x = Warrens.inARow(1, 9);
            due(1, () -> x.tunnelDelay(0, 1));
            due(1, () -> x.tunnelDelay(1, 0));
            due(9, () -> x.tunnelDelay(1, 2));
            // It is that of the tunnel, also where a way round is shorter.
            x.addTunnel(0, 2, 2);
            due(9, () -> x.tunnelDelay(2, 1));
        });
        test(7, "Throws `IndexOutOfBoundsException` if there is no such chamber, for either", () -> {
            refusedWithoutChamber(DrumWarren::tunnelDelay);
            refused(Check.INDEX, Warrens::full, x -> x.tunnelDelay(7, 8));
        });
        test(7, "Throws `NoSuchElementException` if there is no tunnel between them", () -> {
            Supplier<DrumWarren> made = () -> Warrens.inARow(4, 4);
            refused(Check.ELEMENT, made, x -> x.tunnelDelay(0, 2));
            refused(Check.ELEMENT, made, x -> x.tunnelDelay(2, 0));
            refused(Check.ELEMENT, made, x -> x.tunnelDelay(1, 1));
            DrumWarren x = made.get();
            x.removeTunnel(0, 1);
            due(Check.ELEMENT, () -> x.tunnelDelay(1, 0));
        });
    }

    /** Tunnels of 9 and ways round by two tunnels that are shorter, as long, and longer. */
    private static void waysRound(PairAct delay) {
        for (int second = 4; second <= 6; second++) {
            DrumWarren x = Warrens.inARow(4, second);
            x.addTunnel(0, 2, 9);
            int due = Math.min(9, 4 + second);
            due(due, () -> delay.on(x, 0, 2));
            due(due, () -> delay.on(x, 2, 0));
        }
    }

    /** The longest way there is, all of whose chambers come in another order than their indices. */
    private static void longestWay(PairAct delay) {
        int[] order = {3, 0, 7, 5, 1, 6, 2, 4};
        DrumWarren x = Warrens.withChambers(8);
        for (int i = 0; i < 7; i++) {
            x.addTunnel(order[i], order[i + 1], 9);
        }
        for (int i = 0; i < 8; i++) {
            for (int j = 0; j < 8; j++) {
                int from = i;
                int to = j;
                due(9 * Math.abs(from - to), () -> delay.on(x, order[from], order[to]));
            }
        }
    }

    private static void noWay(PairAct delay) {
        refused(Check.ELEMENT, () -> Warrens.withChambers(2), x -> delay.on(x, 0, 1));
        refused(Check.ELEMENT, () -> Warrens.withChambers(8), x -> delay.on(x, 7, 0));
        DrumWarren x = Warrens.inARow(1, 1, 1, 1, 1, 1, 1);
        due(7, () -> delay.on(x, 0, 7));
        x.removeTunnel(3, 4);
        due(Check.ELEMENT, () -> delay.on(x, 0, 7));
        due(Check.ELEMENT, () -> delay.on(x, 4, 3));
        due(3, () -> delay.on(x, 3, 0));
        due(3, () -> delay.on(x, 4, 7));
        x.addTunnel(0, 7, 9);
        due(15, () -> delay.on(x, 3, 4));
    }

    private static void sameChamber(PairAct delay) {
        for (int chambers = 1; chambers <= 8; chambers++) {
            DrumWarren apart = Warrens.withChambers(chambers);
            int last = chambers - 1;
            due(0, () -> delay.on(apart, last, last));
        }
        DrumWarren joined = Warrens.full();
        for (int i = 0; i < 8; i++) {
            int chamber = i;
            due(0, () -> delay.on(joined, chamber, chamber));
        }
    }

    private static void shortestDelay() {
        test(8, "Returns the shortest delay from one chamber to another one by tunnels, computed by improving all pairs of "
                + "chambers.", () -> {
                    waysRound(DrumWarren::shortestDelay);
                    longestWay(DrumWarren::shortestDelay);
                });
        test(8, "Returns the delay, 0 for the same chamber.", () -> sameChamber(DrumWarren::shortestDelay));
        test(8, "Throws `IndexOutOfBoundsException` if there is no such chamber, for either", () -> {
            refusedWithoutChamber(DrumWarren::shortestDelay);
            refused(Check.INDEX, Warrens::full, x -> x.shortestDelay(8, 7));
        });
        test(8, "Throws `NoSuchElementException` if there is no way", () -> noWay(DrumWarren::shortestDelay));
    }

    private static void shortestDelayBySearch() {
        test(9, "Returns the same as shortestDelay, but is computed by always continuing from the nearest chamber.", () -> {
            waysRound(DrumWarren::shortestDelayBySearch);
            longestWay(DrumWarren::shortestDelayBySearch);
        });
        test(9, "Returns the delay.", () -> sameChamber(DrumWarren::shortestDelayBySearch));
        test(9, "Throws `IndexOutOfBoundsException` if there is no such chamber, for either", () -> {
            refusedWithoutChamber(DrumWarren::shortestDelayBySearch);
            refused(Check.INDEX, Warrens::full, x -> x.shortestDelayBySearch(8, 7));
        });
        test(9, "Throws `NoSuchElementException` if there is no way", () -> noWay(DrumWarren::shortestDelayBySearch));
    }

    private static void loudness() {
        test(10, "Returns the loudness, 0.0f if there is no way.", () -> {
            DrumWarren x = Warrens.inARow(1, 9, 9, 9, 9, 9);
            x.addChamber();
            due(0.0f, () -> x.loudness(0, 7));
            due(0.0f, () -> x.loudness(7, 0));
            due(1.0f, () -> x.loudness(7, 7));
            due(0.5f, () -> x.loudness(0, 1));
            x.addTunnel(6, 7, 9);
            due(1.0f / 56.0f, () -> x.loudness(0, 7));
            x.removeTunnel(0, 1);
            due(0.0f, () -> x.loudness(0, 7));
        });
        test(10, "Throws `IndexOutOfBoundsException` if there is no such chamber, for either", () -> {
            refusedWithoutChamber(DrumWarren::loudness);
            refused(Check.INDEX, Warrens::full, x -> x.loudness(7, 8));
        });
    }

    private static void loudnessBits() {
        test(11, "Returns the bits of the loudness, as Float.floatToIntBits returns them.", () -> {
            DrumWarren x = Warrens.inARow(9, 9, 9, 9, 9, 9, 9);
            due(0x3F800000, () -> x.loudnessBits(0, 0));
            due(0x3DCCCCCD, () -> x.loudnessBits(0, 1));
            due(0x3C800000, () -> x.loudnessBits(0, 7));
            x.removeTunnel(3, 4);
            due(0, () -> x.loudnessBits(0, 7));
            DrumWarren y = Warrens.full();
            for (int i = 0; i < 64; i++) {
                int from = i / 8;
                int to = i % 8;
                due(Float.floatToIntBits(1.0f / (1.0f + y.shortestDelay(from, to))), () -> y.loudnessBits(from, to));
            }
        });
        test(11, "Throws `IndexOutOfBoundsException` if there is no such chamber, for either", () -> {
            refusedWithoutChamber(DrumWarren::loudnessBits);
            refused(Check.INDEX, Warrens::full, x -> x.loudnessBits(8, 7));
        });
    }
}
