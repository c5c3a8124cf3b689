import java.util.function.Supplier;

/** The boundary cases of the promises 12 to 21: hares. */
final class HareEdgesTest extends SentenceTests {
    /** A call with a hare. */
    interface HareAct {
        Object on(DrumWarren warren, int hare);
    }

    private HareEdgesTest() {
    }

    static void run() {
        addHare();
        move();
        moveRefused();
        setListening();
        counts();
        listening();
        drumming();
        received();
        latestNumber();
        ranks();
    }

    private static DrumWarren together(int hares) {
        return Warrens.withHares(Warrens.withChambers(1), new int[hares]);
    }

    private static void refusedWithoutHare(HareAct act) {
        for (int hares : new int[] {0, 1, 6}) {
            for (int bad : outside(hares)) {
                refused(Check.INDEX, () -> together(hares), x -> act.on(x, bad));
            }
        }
        refused(Check.INDEX, DrumWarren::new, x -> act.on(x, 0));
        refused(Check.INDEX, Warrens::busy, x -> act.on(x, 4));
    }

    private static void addHare() {
        test(12, "Adds a hare that listens.", () -> {
            // Also in the place of one that was undone, which listened no more and had received something.
            DrumWarren x = together(1);
            Warrens.executeText(x, "hare 0;say 0>1=9;tick 5;sleep 1");
            due(1, () -> x.received(1));
            x.undo();
            due(1, () -> x.addHare(0));
            due(true, () -> x.isListening(1));
            due(0, () -> x.received(1));
            due(Check.ELEMENT, () -> x.latestNumber(1));
        });
        test(12, "Returns the index of the hare.", () -> {
            DrumWarren x = Warrens.withChambers(8);
            due(0, () -> x.addHare(7));
            x.undo();
            due(0, () -> x.addHare(0));
            for (int i = 1; i < 6; i++) {
                int hare = i;
                due(hare, () -> x.addHare(hare));
            }
            x.undo();
            due(5, () -> x.addHare(7));
        });
        test(12, "Throws `IndexOutOfBoundsException` if there is no such chamber", () -> {
            for (int chambers : new int[] {0, 1, 8}) {
                for (int bad : outside(chambers)) {
                    refused(Check.INDEX, () -> Warrens.withChambers(chambers), x -> x.addHare(bad));
                }
            }
            for (int bad : outside(8)) {
                refused(Check.INDEX, Warrens::full, x -> x.addHare(bad));
            }
            due(0, () -> Warrens.withChambers(8).addHare(7));
        });
        test(12, "Throws `IllegalStateException` if there are 6 hares", () -> {
            due(5, () -> together(5).addHare(0));
            refused(Check.STATE, () -> together(6), x -> x.addHare(0));
            refused(Check.STATE, Warrens::full, x -> x.addHare(7));
            DrumWarren x = together(6);
            due(Check.STATE, () -> x.addHare(0));
            x.undo();
            due(5, () -> x.addHare(0));
            due(Check.STATE, () -> x.addHare(0));
        });
    }

    private static void move() {
        test(13, "Moves a hare to a chamber, which can be the one in which it is.", () -> {
            DrumWarren x = Warrens.withHares(Warrens.withChambers(4), 3);
            due(3, () -> x.move(0, 3));
            due(3, () -> x.chamberOf(0));
            due(6, x::undoCount);
            x.move(0, 0);
            due(0, () -> x.chamberOf(0));
        });
        test(13, "Returns the index of the chamber before.", () -> {
            DrumWarren x = Warrens.withHares(Warrens.withChambers(8), 0, 7);
            due(0, () -> x.move(0, 7));
            due(7, () -> x.move(0, 0));
            due(0, () -> x.move(0, 0));
            due(7, () -> x.move(1, 0));
        });
    }

    private static void moveRefused() {
        test(13, "Throws `IndexOutOfBoundsException` if there is no such hare or chamber", () -> {
            refusedWithoutHare((x, hare) -> x.move(hare, 0));
            for (int bad : outside(4)) {
                // Hare 1 can move, the message of hare 2 is being drummed.
                refused(Check.INDEX, Warrens::busy, x -> x.move(1, bad));
                refused(Check.INDEX, Warrens::busy, x -> x.move(2, bad));
                refused(Check.INDEX, Warrens::busy, x -> x.move(bad, bad));
            }
        });
        test(13, "Throws `IllegalStateException` if a message of the hare is being drummed", () -> {
            for (int ticks = 1; ticks <= 4; ticks++) {
                int passed = ticks;
                Supplier<DrumWarren> made = () -> saidOnce(passed);
                refused(Check.STATE, made, x -> x.move(0, 1));
                refused(Check.STATE, made, x -> x.move(0, 0));
                // The receiver and who only listens can move.
                due(1, () -> made.get().move(1, 0));
                due(0, () -> made.get().move(2, 1));
            }
            due(0, () -> saidOnce(0).move(0, 1));
            due(0, () -> saidOnce(5).move(0, 1));
            // Lost once it waits, lost for ever it is not drummed any more.
            DrumWarren x = saidOnce(0);
            x.setListening(1, false);
            x.passTicks(5);
            due(0, () -> x.move(0, 0));
            x.passTicks(1);
            due(Check.STATE, () -> x.move(0, 0));
            x.passTicks(9);
            due(0, () -> x.move(0, 1));
        });
    }

    /** Hare 0 says something to hare 1 in the next chamber, hare 2 sits beside it. */
    private static DrumWarren saidOnce(int ticks) {
        DrumWarren x = Warrens.withHares(Warrens.inARow(1), 0, 1, 0);
        x.say(0, 1, 5);
        if (ticks > 0) {
            x.passTicks(ticks);
        }
        return x;
    }

    private static void setListening() {
        test(14, "Returns true if it listened before.", () -> {
            DrumWarren x = together(6);
            for (int hare : new int[] {0, 5}) {
                due(true, () -> x.setListening(hare, true));
                due(true, () -> x.setListening(hare, false));
                due(false, () -> x.setListening(hare, false));
                due(false, () -> x.setListening(hare, true));
                due(true, () -> x.setListening(hare, true));
            }
        });
        test(14, "Throws `IndexOutOfBoundsException` if there is no such hare", () -> {
            refusedWithoutHare((x, hare) -> x.setListening(hare, true));
            refusedWithoutHare((x, hare) -> x.setListening(hare, false));
        });
    }

    private static void counts() {
        test(15, "Returns the number of hares.", () -> {
            DrumWarren x = Warrens.withChambers(1);
            due(0, x::hareCount);
            for (int i = 1; i <= 6; i++) {
                x.addHare(0);
                due(i, x::hareCount);
            }
            Check.answer(() -> x.addHare(0));
            due(6, x::hareCount);
            x.undo();
            due(5, x::hareCount);
        });
        test(16, "Returns the index of the chamber.", () -> {
            DrumWarren x = Warrens.withHares(Warrens.withChambers(8), 0, 7, 0, 0, 0, 7);
            due(0, () -> x.chamberOf(0));
            due(7, () -> x.chamberOf(1));
            due(7, () -> x.chamberOf(5));
            x.move(0, 7);
            x.move(5, 0);
            due(7, () -> x.chamberOf(0));
            due(0, () -> x.chamberOf(5));
        });
        test(16, "Throws `IndexOutOfBoundsException` if there is no such hare",
                () -> refusedWithoutHare(DrumWarren::chamberOf));
    }

    private static void listening() {
        test(17, "Returns true if it listens.", () -> {
            DrumWarren x = together(6);
            due(true, () -> x.isListening(0));
            due(true, () -> x.isListening(5));
            x.setListening(5, false);
            due(false, () -> x.isListening(5));
            due(true, () -> x.isListening(4));
            x.setListening(5, true);
            due(true, () -> x.isListening(5));
        });
        test(17, "Throws `IndexOutOfBoundsException` if there is no such hare",
                () -> refusedWithoutHare(DrumWarren::isListening));
    }

    private static void drumming() {
        test(18, "Returns true if one is being drummed.", () -> {
            DrumWarren x = saidOnce(0);
            x.setListening(1, false);
            for (int tick = 0; tick < 17; tick++) {
                // Between two attempts it waits, and after the third one it stays lost.
                boolean due = tick < 15 && tick % 5 != 0;
                due(due, () -> x.isDrumming(0));
                due(false, () -> x.isDrumming(1));
                due(false, () -> x.isDrumming(2));
                x.passTicks(1);
            }
            DrumWarren y = saidOnce(4);
            due(true, () -> y.isDrumming(0));
            y.passTicks(1);
            due(false, () -> y.isDrumming(0));
            // With 8 messages: in tick 5 each hare begins again, with a message that was lost or with its next one.
            DrumWarren full = Warrens.full();
            for (int tick = 0; tick < 7; tick++) {
                int drumming = tick == 0 || tick == 5 ? 0 : 6;
                for (int i = 0; i < 6; i++) {
                    int hare = i;
                    due(hare < drumming, () -> full.isDrumming(hare));
                }
                full.passTicks(1);
            }
        });
        test(18, "Throws `IndexOutOfBoundsException` if there is no such hare",
                () -> refusedWithoutHare(DrumWarren::isDrumming));
    }

    private static void received() {
        test(19, "Returns the number of messages that were delivered to a hare so far.", () -> {
            DrumWarren x = together(2);
            due(0, () -> x.received(1));
            for (int i = 0; i < 8; i++) {
                x.say(0, 1, i);
            }
            x.passTicks(4);
            due(0, () -> x.received(1));
            x.passTicks(1);
            due(1, () -> x.received(1));
            x.passTicks(35);
            due(8, () -> x.received(1));
            for (int i = 0; i < 8; i++) {
                x.forget(i);
            }
            due(8, () -> x.received(1));
            // What is lost was not delivered.
            x.setListening(1, false);
            x.say(0, 1, 1);
            x.passTicks(20);
            due(8, () -> x.received(1));
            due(0, () -> x.received(0));
        });
        test(19, "Throws `IndexOutOfBoundsException` if there is no such hare",
                () -> refusedWithoutHare(DrumWarren::received));
    }

    private static void latestNumber() {
        test(20, "Returns the number, 0 to 15.", () -> {
            DrumWarren x = together(2);
            for (int number : new int[] {0, 15, 1, 0, 14}) {
                int id = x.say(0, 1, number);
                x.passTicks(5);
                due(number, () -> x.latestNumber(1));
                x.forget(id);
                due(number, () -> x.latestNumber(1));
            }
            // Neither a lost message nor one that waits.
            x.setListening(1, false);
            x.say(0, 1, 3);
            x.passTicks(20);
            x.say(0, 1, 4);
            due(14, () -> x.latestNumber(1));
        });
        test(20, "Throws `IndexOutOfBoundsException` if there is no such hare",
                () -> refusedWithoutHare(DrumWarren::latestNumber));
        test(20, "Throws `NoSuchElementException` if none was delivered", () -> {
            refused(Check.ELEMENT, () -> together(1), x -> x.latestNumber(0));
            refused(Check.ELEMENT, () -> together(6), x -> x.latestNumber(5));
            refused(Check.ELEMENT, () -> saidOnce(4), x -> x.latestNumber(1));
            // Who sent one has received none.
            refused(Check.ELEMENT, () -> saidOnce(5), x -> x.latestNumber(0));
            due(5, () -> saidOnce(5).latestNumber(1));
            DrumWarren lost = saidOnce(0);
            lost.setListening(1, false);
            lost.passTicks(20);
            due(Check.ELEMENT, () -> lost.latestNumber(1));
            DrumWarren undone = saidOnce(5);
            undone.undo();
            due(Check.ELEMENT, () -> undone.latestNumber(1));
        });
    }

    private static void ranks() {
        test(21, "Returns a hare by the number of messages that were delivered to it: the greatest first; of several, the "
                + "smallest index first.", () -> {
                    DrumWarren x = together(6);
                    ranksAre(x, 0, 1, 2, 3, 4, 5);
                    x.say(0, 5, 1);
                    x.passTicks(5);
                    ranksAre(x, 5, 0, 1, 2, 3, 4);
                    x.say(0, 3, 1);
                    x.passTicks(5);
                    ranksAre(x, 3, 5, 0, 1, 2, 4);
                    x.say(0, 5, 1);
                    x.passTicks(5);
                    ranksAre(x, 5, 3, 0, 1, 2, 4);
                });
        test(21, "Throws `NoSuchElementException` if there is no such rank", () -> {
            for (int hares : new int[] {0, 1, 6}) {
                for (int bad : outside(hares)) {
                    refused(Check.ELEMENT, () -> together(hares), x -> x.hareByReceived(bad));
                }
            }
            due(0, () -> together(1).hareByReceived(0));
            due(5, () -> together(6).hareByReceived(5));
        });
    }

    private static void ranksAre(DrumWarren x, int... hares) {
        for (int i = 0; i < hares.length; i++) {
            int rank = i;
            due(hares[rank], () -> x.hareByReceived(rank));
        }
    }
}
