/** Promises 1 to 11: a new object, chambers and tunnels. */
final class ChambersTest {
    private ChambersTest() {
    }

    static void run() {
        newObject();
        addChamber();
        addTunnel();
        removeTunnel();
        removedTunnelLeavesThumps();
        counts();
        tunnelDelay();
        shortestDelays();
        shortestDelaysInARing();
        loudness();
    }

    private static void newObject() {
        DrumWarren x = new DrumWarren();
        Check.due(1, 0, x::chamberCount);
        Check.due(1, 0, x::tunnelCount);
        Check.due(1, 0, x::hareCount);
        Check.due(1, 0, x::messageCount);
        Check.due(1, 0, x::ticks);
        Check.due(1, 0, x::undoCount);
        Check.due(1, 0, x::thumpsDrummed);
        Check.due(1, 0, x::deliveries);
        Check.due(1, 0, x::losses);
        Check.due(1, true, x::isConsistent);
    }

    private static void addChamber() {
        DrumWarren x = new DrumWarren();
        for (int i = 0; i < 8; i++) {
            Check.due(2, i, x::addChamber);
        }
        Check.due(2, Check.STATE, x::addChamber);
        Check.due(2, 8, x::chamberCount);
    }

    private static void addTunnel() {
        DrumWarren x = Warrens.withChambers(3);
        Check.due(3, 1, () -> x.addTunnel(0, 1, 1));
        Check.due(3, 2, () -> x.addTunnel(2, 1, 9));
        Check.due(3, Check.INDEX, () -> x.addTunnel(-1, 0, 1));
        Check.due(3, Check.INDEX, () -> x.addTunnel(0, -1, 1));
        Check.due(3, Check.INDEX, () -> x.addTunnel(3, 0, 1));
        Check.due(3, Check.INDEX, () -> x.addTunnel(0, 3, 1));
        Check.due(3, Check.INDEX, () -> x.addTunnel(3, 3, 0));
        Check.due(3, Check.INDEX, () -> x.addTunnel(0, Integer.MAX_VALUE, 1));
        Check.due(3, Check.INDEX, () -> x.addTunnel(Integer.MIN_VALUE, 0, 1));
        Check.due(3, Check.ARGUMENT, () -> x.addTunnel(0, 0, 1));
        Check.due(3, Check.ARGUMENT, () -> x.addTunnel(0, 2, 0));
        Check.due(3, Check.ARGUMENT, () -> x.addTunnel(0, 2, 10));
        Check.due(3, Check.ARGUMENT, () -> x.addTunnel(0, 2, Integer.MIN_VALUE));
        Check.due(3, Check.ARGUMENT, () -> x.addTunnel(0, 1, 10));
        Check.due(3, Check.STATE, () -> x.addTunnel(0, 1, 5));
        Check.due(3, Check.STATE, () -> x.addTunnel(1, 0, 5));
        Check.due(3, 2, x::tunnelCount);
        Check.due(3, 1, () -> x.tunnelDelay(0, 1));
        Check.due(3, 3, () -> x.addTunnel(2, 0, 4));
    }

    private static void removeTunnel() {
        DrumWarren x = Warrens.inARow(3, 4);
        Check.due(4, Check.INDEX, () -> x.removeTunnel(0, 3));
        Check.due(4, Check.INDEX, () -> x.removeTunnel(-1, 0));
        Check.due(4, Check.ELEMENT, () -> x.removeTunnel(0, 2));
        Check.due(4, Check.ELEMENT, () -> x.removeTunnel(1, 1));
        Check.due(4, 4, () -> x.removeTunnel(2, 1));
        Check.due(4, Check.ELEMENT, () -> x.removeTunnel(1, 2));
        Check.due(4, 1, x::tunnelCount);
        Check.due(4, Check.ELEMENT, () -> x.shortestDelay(0, 2));
        Check.due(4, 2, () -> x.addTunnel(1, 2, 9));
        Check.due(4, 12, () -> x.shortestDelay(0, 2));
    }

    private static void removedTunnelLeavesThumps() {
        DrumWarren x = Warrens.withHares(Warrens.inARow(7), 0, 1);
        x.say(0, 1, 8);
        x.passTicks(1);
        x.removeTunnel(0, 1);
        Check.due(4, 1, () -> x.thumpsHeard(1, 7));
        x.passTicks(4);
        Check.due(4, 0, () -> x.thumpsHeard(1, 11));
        Check.due(4, 1, () -> x.thumpsHeard(0, 4));
    }

    private static void counts() {
        DrumWarren x = Warrens.withChambers(8);
        Check.due(5, 8, x::chamberCount);
        int tunnels = 0;
        for (int first = 0; first < 8; first++) {
            for (int second = 0; second < first; second++) {
                int a = first;
                int b = second;
                tunnels++;
                Check.due(6, tunnels, () -> x.addTunnel(a, b, 1 + (a + b) % 9));
            }
        }
        Check.due(6, 28, x::tunnelCount);
        x.removeTunnel(3, 5);
        Check.due(6, 27, x::tunnelCount);
        x.undo();
        Check.due(6, 28, x::tunnelCount);
        DrumWarren y = Warrens.withChambers(1);
        Check.due(5, 1, y::chamberCount);
        y.undo();
        Check.due(5, 0, y::chamberCount);
    }

    private static void tunnelDelay() {
        DrumWarren x = Warrens.inARow(3, 9);
        Check.due(7, 3, () -> x.tunnelDelay(0, 1));
        Check.due(7, 3, () -> x.tunnelDelay(1, 0));
        Check.due(7, 9, () -> x.tunnelDelay(2, 1));
        Check.due(7, Check.ELEMENT, () -> x.tunnelDelay(0, 2));
        Check.due(7, Check.ELEMENT, () -> x.tunnelDelay(1, 1));
        Check.due(7, Check.INDEX, () -> x.tunnelDelay(0, 3));
        Check.due(7, Check.INDEX, () -> x.tunnelDelay(3, 3));
        Check.due(7, Check.INDEX, () -> x.tunnelDelay(-1, 0));
    }

    private static void shortestDelays() {
        DrumWarren x = Warrens.inARow(9, 9, 9, 9, 9, 9, 9);
        Check.due(8, 63, () -> x.shortestDelay(0, 7));
        Check.due(9, 63, () -> x.shortestDelayBySearch(0, 7));
        Check.due(8, 0, () -> x.shortestDelay(5, 5));
        Check.due(9, 0, () -> x.shortestDelayBySearch(5, 5));
        x.addTunnel(7, 1, 2);
        Check.due(8, 11, () -> x.shortestDelay(0, 7));
        Check.due(9, 11, () -> x.shortestDelayBySearch(7, 0));
        Check.due(8, 20, () -> x.shortestDelay(6, 0));
        Check.due(9, 20, () -> x.shortestDelayBySearch(6, 0));
        x.removeTunnel(0, 1);
        Check.due(8, Check.ELEMENT, () -> x.shortestDelay(0, 7));
        Check.due(9, Check.ELEMENT, () -> x.shortestDelayBySearch(0, 7));
        Check.due(8, 0, () -> x.shortestDelay(0, 0));
        Check.due(8, Check.INDEX, () -> x.shortestDelay(8, 0));
        Check.due(8, Check.INDEX, () -> x.shortestDelay(0, -1));
        Check.due(9, Check.INDEX, () -> x.shortestDelayBySearch(8, 0));
        Check.due(9, Check.INDEX, () -> x.shortestDelayBySearch(0, -1));
        DrumWarren none = new DrumWarren();
        Check.due(8, Check.INDEX, () -> none.shortestDelay(0, 0));
        Check.due(9, Check.INDEX, () -> none.shortestDelayBySearch(0, 0));
    }

    private static void shortestDelaysInARing() {
        DrumWarren x = Warrens.inARow(1, 2, 3, 4);
        x.addTunnel(4, 0, 5);
        x.addTunnel(0, 2, 9);
        int[][] due = {
            {0, 1, 3, 6, 5}, {1, 0, 2, 5, 6}, {3, 2, 0, 3, 7}, {6, 5, 3, 0, 4}, {5, 6, 7, 4, 0}};
        for (int from = 0; from < 5; from++) {
            for (int to = 0; to < 5; to++) {
                int a = from;
                int b = to;
                Check.due(8, due[a][b], () -> x.shortestDelay(a, b));
                Check.due(9, due[a][b], () -> x.shortestDelayBySearch(a, b));
            }
        }
    }

    private static void loudness() {
        DrumWarren x = Warrens.inARow(9, 9, 9, 9, 9, 9);
        x.addChamber();
        Check.due(10, 1.0f, () -> x.loudness(3, 3));
        Check.due(11, 0x3F800000, () -> x.loudnessBits(3, 3));
        Check.due(10, 0.1f, () -> x.loudness(0, 1));
        Check.due(10, 0.0f, () -> x.loudness(0, 7));
        Check.due(11, 0, () -> x.loudnessBits(7, 0));
        Check.due(10, Check.INDEX, () -> x.loudness(0, 8));
        Check.due(10, Check.INDEX, () -> x.loudness(-1, 0));
        Check.due(11, Check.INDEX, () -> x.loudnessBits(0, 8));
        Check.due(11, Check.INDEX, () -> x.loudnessBits(-1, 0));
        for (int delay = 1; delay <= 63; delay++) {
            loudnessAfter(delay);
        }
    }

    private static void loudnessAfter(int delay) {
        int[] delays = new int[7];
        for (int i = 0; i < 7; i++) {
            delays[i] = Math.min(9, Math.max(0, delay - 9 * i));
        }
        DrumWarren x = Warrens.withChambers(8);
        int last = 0;
        while (last < 7 && delays[last] > 0) {
            x.addTunnel(last, last + 1, delays[last]);
            last++;
        }
        int end = last;
        float due = 1.0f / (1.0f + delay);
        Check.due(10, due, () -> x.loudness(0, end));
        Check.due(10, due, () -> x.loudness(end, 0));
        Check.due(11, Float.floatToIntBits(due), () -> x.loudnessBits(0, end));
    }
}
