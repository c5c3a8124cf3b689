/** Promises 34 to 39: ticks, thumps, collisions and what the terms say of delivery. */
final class TicksTest {
    private TicksTest() {
    }

    static void run() {
        passTicks();
        order();
        thumpsHeard();
        oldThumpsAreForgotten();
        longWay();
        thumpsOfNewChambers();
        collisionInOneTick();
        collisionWithLaterThump();
        collisionWithItself();
        laterThumpIsTooLate();
        collisionWithEarlierAttempt();
        noThumpNoCollision();
        receiverMoves();
        wayIsOpenedWhileDrumming();
        wayIsClosedAtTheEnd();
        counts();
    }

    private static DrumWarren pair() {
        return Warrens.withHares(Warrens.inARow(2), 0, 1);
    }

    private static void passTicks() {
        DrumWarren x = pair();
        Check.due(34, Check.ARGUMENT, () -> x.passTicks(0));
        Check.due(34, Check.ARGUMENT, () -> x.passTicks(-1));
        Check.due(34, Check.ARGUMENT, () -> x.passTicks(41));
        Check.due(34, Check.ARGUMENT, () -> x.passTicks(Integer.MAX_VALUE));
        Check.due(35, 0, x::ticks);
        Check.due(34, 0, () -> x.passTicks(1));
        Check.due(35, 1, x::ticks);
        Check.due(34, 0, () -> x.passTicks(40));
        Check.due(35, 41, x::ticks);
        x.say(0, 1, 1);
        x.say(0, 1, 2);
        x.say(0, 1, 3);
        Check.due(34, 2, () -> x.passTicks(14));
        Check.due(34, 1, () -> x.passTicks(1));
        Check.due(35, 56, x::ticks);
    }

    /** The smallest id of a chamber begins, whichever hare sends it, and one at a time. */
    private static void order() {
        DrumWarren x = Warrens.withHares(Warrens.withChambers(3), 0, 0, 2, 0);
        x.say(1, 0, 0);
        x.say(0, 1, 0);
        x.say(2, 0, 0);
        x.say(1, 3, 0);
        x.passTicks(1);
        Check.due(34, "dwdw", () -> Warrens.states(x));
        x.move(0, 1);
        x.passTicks(1);
        Check.due(34, "dddw", () -> Warrens.states(x));
        x.passTicks(3);
        Check.due(34, "wdww", () -> Warrens.states(x));
        x.passTicks(1);
        Check.due(34, "dwdw", () -> Warrens.states(x));
    }

    private static void thumpsHeard() {
        DrumWarren x = Warrens.withHares(Warrens.inARow(2, 3), 0, 2);
        x.addChamber();
        x.say(0, 1, 10);
        Check.due(36, 0, () -> x.thumpsHeard(0, 0));
        x.passTicks(2);
        Check.due(36, 1, () -> x.thumpsHeard(0, 0));
        Check.due(36, 0, () -> x.thumpsHeard(0, 1));
        Check.due(36, 1, () -> x.thumpsHeard(1, 2));
        Check.due(36, 1, () -> x.thumpsHeard(2, 5));
        Check.due(36, 0, () -> x.thumpsHeard(2, 7));
        Check.due(36, 0, () -> x.thumpsHeard(3, 0));
        x.passTicks(1);
        Check.due(36, 1, () -> x.thumpsHeard(2, 7));
        Check.due(36, 0, () -> x.thumpsHeard(0, -17));
        Check.due(36, Check.ARGUMENT, () -> x.thumpsHeard(0, -18));
        Check.due(36, 0, () -> x.thumpsHeard(0, 83));
        Check.due(36, Check.ARGUMENT, () -> x.thumpsHeard(0, 84));
        Check.due(36, Check.ARGUMENT, () -> x.thumpsHeard(0, Integer.MIN_VALUE));
        Check.due(36, Check.ARGUMENT, () -> x.thumpsHeard(0, Integer.MAX_VALUE));
        Check.due(36, Check.INDEX, () -> x.thumpsHeard(4, 0));
        Check.due(36, Check.INDEX, () -> x.thumpsHeard(-1, -100));
    }

    private static void oldThumpsAreForgotten() {
        DrumWarren x = pair();
        x.say(0, 1, 8);
        x.passTicks(20);
        Check.due(36, 1, () -> x.thumpsHeard(0, 0));
        x.passTicks(1);
        Check.due(36, Check.ARGUMENT, () -> x.thumpsHeard(0, 0));
        for (int passes = 1; passes <= 8; passes++) {
            nothingIsHeardAfter(passes);
        }
    }

    private static void nothingIsHeardAfter(int passes) {
        DrumWarren x = pair();
        x.say(0, 1, 8);
        for (int i = 0; i < passes; i++) {
            x.passTicks(40);
        }
        for (int tick = x.ticks() - 20; tick <= x.ticks() + 80; tick++) {
            int asked = tick;
            Check.due(36, 0, () -> x.thumpsHeard(0, asked));
            Check.due(36, 0, () -> x.thumpsHeard(1, asked));
        }
    }

    private static void longWay() {
        DrumWarren x = Warrens.withHares(Warrens.inARow(9, 9, 9, 9, 9, 9, 9), 0, 7);
        x.passTicks(40);
        x.passTicks(39);
        x.say(0, 1, 8);
        Check.due(36, 1, () -> x.passTicks(5));
        Check.due(36, 1, () -> x.thumpsHeard(7, 79 + 63));
        Check.due(36, 1, () -> x.thumpsHeard(7, 83 + 63));
        x.passTicks(40);
        x.passTicks(38);
        Check.due(36, 162, x::ticks);
        Check.due(36, 1, () -> x.thumpsHeard(7, 142));
        Check.due(36, 0, () -> x.thumpsHeard(7, 143));
    }

    private static void thumpsOfNewChambers() {
        DrumWarren x = pair();
        x.say(0, 1, 15);
        x.passTicks(2);
        x.addChamber();
        Check.due(36, 0, () -> x.thumpsHeard(2, 0));
        x.addTunnel(2, 0, 1);
        x.passTicks(1);
        Check.due(36, 0, () -> x.thumpsHeard(2, 2));
        Check.due(36, 1, () -> x.thumpsHeard(2, 3));
    }

    private static void collisionInOneTick() {
        DrumWarren x = Warrens.withHares(Warrens.inARow(1, 1), 0, 2, 1);
        x.say(0, 2, 8);
        x.say(1, 2, 8);
        Check.due(34, 0, () -> x.passTicks(5));
        Check.due(36, 2, () -> x.thumpsHeard(1, 1));
        Check.due(34, "ww", () -> Warrens.states(x));
        x.forget(1);
        Check.due(34, 1, () -> x.passTicks(5));
    }

    /** The thumps that collide are heard only after the decision; the other one is drummed in its tick. */
    private static void collisionWithLaterThump() {
        DrumWarren x = Warrens.withHares(Warrens.inARow(9, 9), 0, 1, 2);
        x.say(0, 1, 1);
        x.passTicks(4);
        x.say(2, 1, 8);
        Check.due(34, 0, () -> x.passTicks(1));
        Check.due(36, 2, () -> x.thumpsHeard(1, 4 + 9));
        Check.due(34, "wd", () -> Warrens.states(x));
    }

    private static void collisionWithItself() {
        DrumWarren x = pair();
        x.say(0, 1, 12);
        x.passTicks(1);
        x.removeTunnel(0, 1);
        x.addTunnel(0, 1, 1);
        Check.due(34, 0, () -> x.passTicks(4));
        Check.due(36, 2, () -> x.thumpsHeard(1, 2));
        Check.due(34, 1, () -> x.timesLost(0));
        Check.due(34, 1, () -> x.passTicks(5));
    }

    private static void laterThumpIsTooLate() {
        DrumWarren x = Warrens.withHares(Warrens.inARow(9, 1), 0, 1, 2);
        x.say(0, 1, 8);
        Check.due(34, 1, () -> x.passTicks(5));
        x.passTicks(3);
        x.say(2, 1, 8);
        Check.due(34, 0, () -> x.passTicks(5));
        Check.due(36, 2, () -> x.thumpsHeard(1, 9));
        Check.due(34, "rw", () -> Warrens.states(x));
    }

    private static void collisionWithEarlierAttempt() {
        DrumWarren x = Warrens.withHares(Warrens.inARow(7), 0, 1);
        x.say(0, 1, 8);
        x.setListening(1, false);
        x.passTicks(5);
        x.setListening(1, true);
        x.removeTunnel(0, 1);
        x.addTunnel(0, 1, 2);
        Check.due(34, 0, () -> x.passTicks(5));
        Check.due(36, 2, () -> x.thumpsHeard(1, 7));
        Check.due(29, 2, () -> x.timesLost(0));
        Check.due(34, 1, () -> x.passTicks(5));
    }

    private static void noThumpNoCollision() {
        DrumWarren x = Warrens.withHares(Warrens.inARow(1), 0, 1);
        x.say(0, 1, 0);
        x.say(1, 0, 15);
        Check.due(34, 2, () -> x.passTicks(5));
        Check.due(37, 4, x::thumpsDrummed);
    }

    private static void receiverMoves() {
        DrumWarren x = Warrens.withHares(Warrens.inARow(1, 1), 0, 2);
        x.addChamber();
        x.say(0, 1, 15);
        x.passTicks(4);
        x.move(1, 0);
        Check.due(34, 1, () -> x.passTicks(1));
        x.say(0, 1, 15);
        x.passTicks(4);
        x.move(1, 3);
        Check.due(34, 0, () -> x.passTicks(1));
        x.passTicks(4);
        x.move(1, 1);
        Check.due(34, 1, () -> x.passTicks(1));
    }

    /** The first thump was not heard, so that a way at the end does not help. */
    private static void wayIsOpenedWhileDrumming() {
        DrumWarren x = Warrens.withHares(Warrens.withChambers(2), 0, 1);
        x.say(0, 1, 9);
        x.passTicks(1);
        x.addTunnel(0, 1, 1);
        Check.due(34, 0, () -> x.passTicks(4));
        x.removeTunnel(0, 1);
        x.forget(0);
        x.say(0, 1, 3);
        x.passTicks(2);
        x.addTunnel(0, 1, 1);
        Check.due(34, 1, () -> x.passTicks(3));
    }

    private static void wayIsClosedAtTheEnd() {
        DrumWarren x = pair();
        x.say(0, 1, 12);
        x.passTicks(4);
        x.removeTunnel(0, 1);
        Check.due(34, 0, () -> x.passTicks(1));
        Check.due(39, 1, x::losses);
        x.passTicks(4);
        x.addTunnel(0, 1, 3);
        Check.due(34, 0, () -> x.passTicks(1));
        Check.due(39, 2, x::losses);
    }

    private static void counts() {
        DrumWarren x = pair();
        x.say(0, 1, 15);
        x.say(0, 1, 1);
        x.passTicks(3);
        Check.due(37, 3, x::thumpsDrummed);
        Check.due(38, 0, x::deliveries);
        x.passTicks(2);
        Check.due(37, 4, x::thumpsDrummed);
        Check.due(38, 1, x::deliveries);
        x.setListening(1, false);
        x.passTicks(5);
        Check.due(39, 1, x::losses);
        x.passTicks(10);
        Check.due(37, 10, x::thumpsDrummed);
        Check.due(38, 1, x::deliveries);
        Check.due(39, 3, x::losses);
        x.forget(0);
        x.forget(1);
        Check.due(37, 10, x::thumpsDrummed);
        Check.due(38, 1, x::deliveries);
        Check.due(39, 3, x::losses);
        for (int i = 0; i < 4; i++) {
            x.undo();
        }
        Check.due(39, 0, x::losses);
        Check.due(37, 4, x::thumpsDrummed);
        Check.due(35, 5, x::ticks);
    }
}
