/** Promises 12 to 21: hares. */
final class HaresTest {
    private HaresTest() {
    }

    static void run() {
        addHare();
        move();
        moveWhileDrumming();
        listening();
        counts();
        drumming();
        received();
        latestOfOneTick();
        ranks();
    }

    private static void addHare() {
        DrumWarren x = Warrens.withChambers(2);
        Check.due(12, Check.INDEX, () -> x.addHare(2));
        Check.due(12, Check.INDEX, () -> x.addHare(-1));
        for (int i = 0; i < 6; i++) {
            int hare = i;
            Check.due(12, hare, () -> x.addHare(hare % 2));
            Check.due(12, hare % 2, () -> x.chamberOf(hare));
            Check.due(12, true, () -> x.isListening(hare));
            Check.due(12, 0, () -> x.received(hare));
        }
        Check.due(12, Check.STATE, () -> x.addHare(0));
        Check.due(12, Check.INDEX, () -> x.addHare(2));
        Check.due(12, 6, x::hareCount);
    }

    private static void move() {
        DrumWarren x = Warrens.withHares(Warrens.withChambers(3), 0, 1);
        Check.due(13, 0, () -> x.move(0, 2));
        Check.due(13, 2, () -> x.chamberOf(0));
        Check.due(13, 2, () -> x.move(0, 2));
        Check.due(13, 2, () -> x.move(0, 1));
        Check.due(13, 1, () -> x.chamberOf(1));
        Check.due(13, Check.INDEX, () -> x.move(2, 0));
        Check.due(13, Check.INDEX, () -> x.move(-1, 0));
        Check.due(13, Check.INDEX, () -> x.move(0, 3));
        Check.due(13, Check.INDEX, () -> x.move(0, -1));
        Check.due(13, 1, () -> x.chamberOf(0));
    }

    private static void moveWhileDrumming() {
        DrumWarren x = Warrens.withHares(Warrens.inARow(1), 0, 1);
        x.say(0, 1, 8);
        Check.due(13, 0, () -> x.move(0, 0));
        x.passTicks(1);
        Check.due(13, Check.STATE, () -> x.move(0, 1));
        Check.due(13, Check.STATE, () -> x.move(0, 0));
        Check.due(13, Check.INDEX, () -> x.move(0, 2));
        Check.due(13, 1, () -> x.move(1, 0));
        x.passTicks(3);
        Check.due(13, Check.STATE, () -> x.move(0, 1));
        x.passTicks(1);
        Check.due(13, 0, () -> x.move(0, 1));
    }

    private static void listening() {
        DrumWarren x = Warrens.withHares(Warrens.withChambers(1), 0, 0);
        Check.due(17, true, () -> x.isListening(1));
        Check.due(14, true, () -> x.setListening(1, true));
        Check.due(14, true, () -> x.setListening(1, false));
        Check.due(14, false, () -> x.setListening(1, false));
        Check.due(17, false, () -> x.isListening(1));
        Check.due(17, true, () -> x.isListening(0));
        Check.due(14, false, () -> x.setListening(1, true));
        Check.due(17, true, () -> x.isListening(1));
        Check.due(14, Check.INDEX, () -> x.setListening(2, true));
        Check.due(14, Check.INDEX, () -> x.setListening(-1, false));
        Check.due(17, Check.INDEX, () -> x.isListening(2));
        Check.due(17, Check.INDEX, () -> x.isListening(-1));
    }

    private static void counts() {
        DrumWarren x = Warrens.withChambers(2);
        Check.due(15, 0, x::hareCount);
        x.addHare(1);
        Check.due(15, 1, x::hareCount);
        Check.due(16, 1, () -> x.chamberOf(0));
        Check.due(16, Check.INDEX, () -> x.chamberOf(1));
        Check.due(16, Check.INDEX, () -> x.chamberOf(-1));
    }

    private static void drumming() {
        DrumWarren x = Warrens.withHares(Warrens.withChambers(1), 0, 0, 0);
        x.say(0, 1, 3);
        x.say(1, 2, 3);
        Check.due(18, false, () -> x.isDrumming(0));
        x.passTicks(1);
        Check.due(18, true, () -> x.isDrumming(0));
        Check.due(18, false, () -> x.isDrumming(1));
        x.passTicks(3);
        Check.due(18, true, () -> x.isDrumming(0));
        x.passTicks(1);
        Check.due(18, false, () -> x.isDrumming(0));
        Check.due(18, false, () -> x.isDrumming(1));
        x.passTicks(1);
        Check.due(18, true, () -> x.isDrumming(1));
        Check.due(18, Check.INDEX, () -> x.isDrumming(3));
        Check.due(18, Check.INDEX, () -> x.isDrumming(-1));
    }

    private static void received() {
        DrumWarren x = Warrens.withHares(Warrens.withChambers(1), 0, 0);
        Check.due(19, 0, () -> x.received(1));
        Check.due(20, Check.ELEMENT, () -> x.latestNumber(1));
        x.say(0, 1, 0);
        x.say(0, 1, 15);
        x.say(0, 1, 6);
        x.passTicks(5);
        Check.due(19, 1, () -> x.received(1));
        Check.due(20, 0, () -> x.latestNumber(1));
        x.passTicks(5);
        Check.due(20, 15, () -> x.latestNumber(1));
        x.forget(1);
        Check.due(20, 15, () -> x.latestNumber(1));
        x.passTicks(5);
        Check.due(19, 3, () -> x.received(1));
        Check.due(20, 6, () -> x.latestNumber(1));
        Check.due(19, 0, () -> x.received(0));
        Check.due(20, Check.ELEMENT, () -> x.latestNumber(0));
        Check.due(19, Check.INDEX, () -> x.received(2));
        Check.due(19, Check.INDEX, () -> x.received(-1));
        Check.due(20, Check.INDEX, () -> x.latestNumber(2));
        Check.due(20, Check.INDEX, () -> x.latestNumber(-1));
        x.undo();
        x.undo();
        Check.due(19, 2, () -> x.received(1));
        Check.due(20, 15, () -> x.latestNumber(1));
    }

    private static void latestOfOneTick() {
        DrumWarren x = Warrens.withHares(Warrens.inARow(1), 0, 1, 0);
        x.say(1, 2, 9);
        x.say(0, 2, 0);
        Check.due(20, 2, () -> x.passTicks(5));
        Check.due(20, 0, () -> x.latestNumber(2));
    }

    private static void ranks() {
        DrumWarren x = Warrens.withHares(Warrens.withChambers(1), 0, 0, 0, 0);
        Check.due(21, 0, () -> x.hareByReceived(0));
        Check.due(21, 3, () -> x.hareByReceived(3));
        x.say(0, 2, 1);
        x.say(0, 3, 1);
        x.say(1, 2, 1);
        x.say(3, 0, 1);
        x.passTicks(20);
        int[] due = {2, 0, 3, 1};
        for (int i = 0; i < 4; i++) {
            int rank = i;
            Check.due(21, due[rank], () -> x.hareByReceived(rank));
        }
        Check.due(21, Check.ELEMENT, () -> x.hareByReceived(4));
        Check.due(21, Check.ELEMENT, () -> x.hareByReceived(-1));
        Check.due(21, Check.ELEMENT, () -> x.hareByReceived(Integer.MAX_VALUE));
        Check.due(21, Check.ELEMENT, () -> new DrumWarren().hareByReceived(0));
    }
}
