/** Promises 46 to 53: commands, undo and saved state. */
final class CommandsTest {
    private CommandsTest() {
    }

    static void run() {
        feed();
        everyCommand();
        numbers();
        longestText();
        errorPositions();
        malformedText();
        failedCommands();
        failingTextChangesNothing();
        textBeforeRead();
        undo();
        undoOfEveryChange();
        undoAfterUndo();
        undoBringsBackMessages();
        newOnesAfterUndoAreNew();
        whatIsNoChange();
        refusedCallsKeepHistory();
        undoOfText();
        saveAndRestore();
        restoreAll();
    }

    private static void feed() {
        DrumWarren x = new DrumWarren();
        Check.due(46, 1, () -> x.feed('c'));
        Check.due(46, 2, () -> x.feed((char) 0));
        Check.due(46, 3, () -> x.feed((char) 65535));
        for (int i = 4; i <= 60; i++) {
            int length = i;
            Check.due(46, length, () -> x.feed('x'));
        }
        Check.due(46, Check.STATE, () -> x.feed('x'));
        Check.due(46, Check.STATE, () -> x.feed(';'));
        Check.due(47, Check.ARGUMENT, x::execute);
        Check.due(46, 1, () -> x.feed('x'));
        x.addChamber();
        x.undo();
        x.save();
        x.restore();
        Check.due(46, 2, () -> x.feed('x'));
    }

    private static void everyCommand() {
        DrumWarren x = new DrumWarren();
        Check.due(47, 1, () -> Warrens.executeText(x, "chamber"));
        Check.due(47, 1, x::chamberCount);
        Check.due(47, 3, () -> Warrens.executeText(x, "chamber;chamber;tunnel 0-1*7"));
        Check.due(47, 7, () -> x.tunnelDelay(0, 1));
        Check.due(47, 3, () -> Warrens.executeText(x, "hare 0;hare 1;hare 2"));
        Check.due(47, 3, x::hareCount);
        Check.due(47, 1, () -> x.chamberOf(1));
        Check.due(47, 2, () -> Warrens.executeText(x, "say 0>1=13;say 2>0=4"));
        Check.due(47, 9, () -> x.writeMessage(0));
        Check.due(47, "0:0>1=13w", () -> Warrens.output(x));
        Check.due(47, 2, () -> x.sender(1));
        Check.due(47, 2, () -> Warrens.executeText(x, "sleep 1;sleep 2"));
        Check.due(47, false, () -> x.isListening(1));
        Check.due(47, 1, () -> Warrens.executeText(x, "listen 1"));
        Check.due(47, true, () -> x.isListening(1));
        Check.due(47, false, () -> x.isListening(2));
        Check.due(47, 1, () -> Warrens.executeText(x, "go 2@0"));
        Check.due(47, 0, () -> x.chamberOf(2));
        Check.due(47, 2, () -> Warrens.executeText(x, "tick 4;tick 1"));
        Check.due(47, 5, x::ticks);
        Check.due(47, "rw", () -> Warrens.states(x));
    }

    private static void numbers() {
        DrumWarren x = Warrens.withHares(Warrens.withChambers(1), 0, 0);
        Check.due(47, 3, () -> Warrens.executeText(x, "tick 40;tick 09;tick 9"));
        Check.due(47, 58, x::ticks);
        Check.due(47, 2, () -> Warrens.executeText(x, "say 0>1=05;say 0>1=15"));
        Check.due(47, Check.UNSUPPORTED, () -> Warrens.executeText(x, "tick 41"));
        Check.due(47, Check.UNSUPPORTED, () -> Warrens.executeText(x, "tick 0"));
        Check.due(47, Check.UNSUPPORTED, () -> Warrens.executeText(x, "tick 00"));
        Check.due(47, Check.UNSUPPORTED, () -> Warrens.executeText(x, "say 0>1=16"));
        Check.due(47, Check.ARGUMENT, () -> Warrens.executeText(x, "say 0>1=005"));
        Check.due(47, Check.ARGUMENT, () -> Warrens.executeText(x, "tick 100"));
        Check.due(47, Check.ARGUMENT, () -> Warrens.executeText(x, "tick -1"));
        Check.due(47, 58, x::ticks);
        Check.due(47, 2, x::messageCount);
    }

    private static void longestText() {
        DrumWarren x = Warrens.withHares(Warrens.withChambers(2), 0);
        String eight = "go 0@1;go 0@0;go 0@1;go 0@0;go 0@1;go 0@0;go 0@1;go 0@";
        Check.due(47, 8, () -> Warrens.executeText(x, eight + "1"));
        Check.due(47, 1, () -> x.chamberOf(0));
        Check.due(47, Check.ARGUMENT, () -> Warrens.executeText(x, eight + "0;"));
        Check.due(48, 56, x::errorPosition);
        Check.due(47, Check.ARGUMENT, () -> Warrens.executeText(x, eight + "0;go 0"));
        Check.due(48, 60, x::errorPosition);
        Check.due(47, 7, () -> Warrens.executeText(x,
                "chamber;chamber;chamber;chamber;chamber;chamber;tunnel 0-1*9"));
        Check.due(47, 8, x::chamberCount);
        Check.due(47, 9, () -> x.shortestDelay(1, 0));
    }

    private static void errorPositions() {
        malformedAt(0, "");
        malformedAt(0, ";");
        malformedAt(0, " chamber");
        malformedAt(0, "Chamber");
        malformedAt(1, "cHamber");
        malformedAt(6, "chambe");
        malformedAt(7, "chamber ");
        malformedAt(8, "chamber;");
        malformedAt(8, "chamber;;chamber");
        malformedAt(8, "chamber; chamber");
        malformedAt(7, "chamberchamber");
        malformedAt(1, "t");
        malformedAt(1, "tx");
        malformedAt(2, "tu");
        malformedAt(2, "ti");
        malformedAt(2, "tik");
        malformedAt(3, "tunick");
        malformedAt(6, "tunnel");
        malformedAt(7, "tunnel ");
        malformedAt(7, "tunnel -");
        malformedAt(8, "tunnel 01");
        malformedAt(9, "tunnel 0-x");
        malformedAt(10, "tunnel 0-1x");
        malformedAt(11, "tunnel 0-1*");
        malformedAt(12, "tunnel 0-1*23");
        malformedAt(4, "hare0");
        malformedAt(5, "hare a");
        malformedAt(6, "hare 00");
        malformedAt(1, "s");
        malformedAt(1, "sx");
        malformedAt(2, "sa");
        malformedAt(2, "sl");
        malformedAt(2, "sax");
        malformedAt(2, "slay");
        malformedAt(5, "say 0");
        malformedAt(6, "say 0>");
        malformedAt(7, "say 0>1");
        malformedAt(8, "say 0>1=");
        malformedAt(8, "say 0>1=a");
        malformedAt(9, "say 0>1=1a");
        malformedAt(10, "say 0>1=123");
        malformedAt(10, "say 0>1=12 ");
        malformedAt(7, "listen x");
        malformedAt(8, "listen 0.");
        malformedAt(6, "sleep " + (char) 0x0660);
        malformedAt(3, "go @1");
        malformedAt(4, "go 0-1");
        malformedAt(5, "go 0@");
        malformedAt(6, "go 0@11");
        malformedAt(5, "tick ");
        malformedAt(5, "tick -1");
        malformedAt(5, "tick #");
        malformedAt(5, "tick %");
        malformedAt(5, "hare #");
        malformedAt(7, "tick 12345");
        malformedAt(8, "chamber;x");
        malformedAt(15, "chamber;tick 123");
    }

    private static void malformedAt(int position, String text) {
        DrumWarren x = Warrens.withChambers(1);
        Check.due(47, Check.ARGUMENT, () -> Warrens.executeText(x, text));
        Check.due(48, position, x::errorPosition);
        Check.due(47, 1, x::chamberCount);
    }

    private static void malformedText() {
        DrumWarren x = new DrumWarren();
        Check.due(48, Check.ELEMENT, x::errorPosition);
        Warrens.executeText(x, "chamber");
        Check.due(48, Check.ELEMENT, x::errorPosition);
        Check.due(47, Check.ARGUMENT, () -> Warrens.executeText(x, "chamber;chamber;hare"));
        Check.due(48, 20, x::errorPosition);
        Check.due(47, 1, x::chamberCount);
        Check.due(46, 1, () -> x.feed('t'));
        Check.due(47, Check.ARGUMENT, x::execute);
        Check.due(48, 1, x::errorPosition);
        Warrens.executeText(x, "hare 0");
        x.undo();
        x.save();
        x.restore();
        Check.due(48, 1, x::errorPosition);
        Check.due(47, Check.UNSUPPORTED, () -> Warrens.executeText(x, "hare 7"));
        Check.due(48, 1, x::errorPosition);
        Check.due(49, 0, x::failedCommand);
        Check.due(47, Check.ARGUMENT, x::execute);
        Check.due(48, 0, x::errorPosition);
        Check.due(49, 0, x::failedCommand);
    }

    private static void failedCommands() {
        failsAt(0, "tunnel 0-2*1");
        failsAt(1, "chamber;tunnel 0-0*1");
        failsAt(2, "chamber;chamber;tunnel 0-1*0");
        failsAt(1, "tunnel 0-1*1;tunnel 1-0*2");
        failsAt(0, "hare 2");
        failsAt(4, "hare 0;hare 0;hare 0;hare 0;hare 0;hare 0");
        failsAt(0, "say 0>0=1");
        failsAt(0, "say 0>2=1");
        failsAt(0, "say 0>1=16");
        failsAt(0, "listen 2");
        failsAt(1, "sleep 1;sleep 9");
        failsAt(0, "go 0@2");
        failsAt(0, "go 2@0");
        failsAt(2, "say 0>1=1;tick 1;go 0@1");
        failsAt(1, "tick 40;tick 41");
        failsAt(6, "chamber;chamber;chamber;chamber;chamber;chamber;chamber");
    }

    private static void failsAt(int index, String text) {
        DrumWarren x = Warrens.withHares(Warrens.withChambers(2), 0, 0);
        Check.due(49, Check.ELEMENT, x::failedCommand);
        int changes = x.undoCount();
        Check.due(47, Check.UNSUPPORTED, () -> Warrens.executeText(x, text));
        Check.due(49, index, x::failedCommand);
        Check.due(48, Check.ELEMENT, x::errorPosition);
        Check.due(47, 2, x::chamberCount);
        Check.due(47, 0, x::tunnelCount);
        Check.due(47, 2, x::hareCount);
        Check.due(47, true, () -> x.isListening(1));
        Check.due(47, 0, x::messageCount);
        Check.due(47, 0, x::ticks);
        Check.due(47, 0, x::thumpsDrummed);
        Check.due(47, changes, x::undoCount);
        Check.due(46, 1, () -> x.feed('c'));
        Check.due(22, 0, () -> x.say(0, 1, 1));
    }

    private static void failingTextChangesNothing() {
        DrumWarren x = Warrens.withHares(Warrens.inARow(3), 0, 1);
        x.say(0, 1, 9);
        x.passTicks(2);
        Check.due(47, Check.UNSUPPORTED,
                () -> Warrens.executeText(x, "tick 1;sleep 1;go 1@0;tick 20;say 1>0=1;tick 0"));
        Check.due(49, 5, x::failedCommand);
        Check.due(47, "d", () -> Warrens.states(x));
        Check.due(47, 2, () -> x.beatsDrummed(0));
        Check.due(47, 0, () -> x.thumpsHeard(1, 6));
        Check.due(47, true, () -> x.isListening(1));
        Check.due(47, 1, () -> x.chamberOf(1));
        Check.due(47, 1, () -> x.passTicks(3));
        Check.due(47, 1, () -> x.thumpsHeard(1, 6));
        Check.due(22, 1, () -> x.say(0, 1, 1));
    }

    /** A malformed end keeps the commands before it from being tried. */
    private static void textBeforeRead() {
        DrumWarren x = new DrumWarren();
        Check.due(47, Check.ARGUMENT, () -> Warrens.executeText(x, "hare 0;x"));
        Check.due(48, 7, x::errorPosition);
        Check.due(49, Check.ELEMENT, x::failedCommand);
    }

    private static void undo() {
        DrumWarren x = new DrumWarren();
        Check.due(50, Check.STATE, x::undo);
        Check.due(51, 0, x::undoCount);
        x.addChamber();
        for (int i = 0; i < 9; i++) {
            x.passTicks(1);
            int due = Math.min(8, i + 2);
            Check.due(51, due, x::undoCount);
        }
        for (int left = 7; left >= 0; left--) {
            int due = left;
            Check.due(50, due, x::undo);
            Check.due(51, due, x::undoCount);
            Check.due(50, due + 1, x::ticks);
        }
        Check.due(50, Check.STATE, x::undo);
        Check.due(50, 1, x::ticks);
        Check.due(50, 1, x::chamberCount);
        x.passTicks(5);
        Check.due(51, 1, x::undoCount);
        Check.due(50, 0, x::undo);
        Check.due(50, 1, x::ticks);
    }

    private static void undoOfEveryChange() {
        DrumWarren x = Warrens.inARow(4);
        Warrens.withHares(x, 0, 1);
        x.say(0, 1, 8);
        x.removeTunnel(1, 0);
        x.addTunnel(1, 0, 9);
        x.move(1, 0);
        x.setListening(1, false);
        x.passTicks(5);
        x.forget(0);
        x.say(1, 0, 3);
        Check.due(51, 8, x::undoCount);
        Check.due(50, 7, x::undo);
        Check.due(50, 0, x::messageCount);
        Check.due(50, 1, () -> x.say(1, 0, 3));
        x.undo();
        Check.due(50, 6, x::undo);
        Check.due(50, 1, () -> x.timesLost(0));
        Check.due(50, 5, x::undo);
        Check.due(50, 0, () -> x.timesLost(0));
        Check.due(50, 0, () -> x.thumpsHeard(0, 0));
        Check.due(50, 0, () -> x.thumpsHeard(1, 9));
        Check.due(50, 4, x::undo);
        Check.due(50, true, () -> x.isListening(1));
        Check.due(50, 3, x::undo);
        Check.due(50, 1, () -> x.chamberOf(1));
        Check.due(50, 2, x::undo);
        Check.due(50, Check.ELEMENT, () -> x.tunnelDelay(0, 1));
        Check.due(50, Check.ELEMENT, () -> x.shortestDelay(0, 1));
        Check.due(50, 1, x::undo);
        Check.due(50, 4, () -> x.shortestDelay(0, 1));
        Check.due(50, 0, x::undo);
        Check.due(50, 0, x::messageCount);
        Check.due(50, 0, () -> x.say(1, 0, 3));
    }

    private static void undoAfterUndo() {
        DrumWarren x = Warrens.withChambers(3);
        x.addTunnel(0, 1, 1);
        x.undo();
        x.addHare(0);
        x.addTunnel(1, 2, 2);
        x.undo();
        Check.due(50, 1, x::hareCount);
        Check.due(50, 0, x::tunnelCount);
        x.addTunnel(0, 2, 3);
        Check.due(50, 4, x::undo);
        Check.due(50, 0, x::tunnelCount);
        Check.due(50, 3, x::undo);
        Check.due(50, 0, x::hareCount);
    }

    private static void undoBringsBackMessages() {
        DrumWarren x = Warrens.withHares(Warrens.withChambers(1), 0, 0, 0);
        x.say(0, 1, 12);
        x.say(2, 0, 3);
        x.forget(0);
        x.forget(1);
        x.say(1, 2, 7);
        x.undo();
        x.undo();
        x.undo();
        Check.due(50, 9, () -> x.writeMessage(0));
        Check.due(50, "0:0>1=12w", () -> Warrens.output(x));
        Check.due(50, 8, () -> x.writeMessage(1));
        Check.due(50, "1:2>0=3w", () -> Warrens.output(x));
        Check.due(50, 2, () -> x.passTicks(10));
        Check.due(50, 12, () -> x.latestNumber(1));
    }

    private static void newOnesAfterUndoAreNew() {
        DrumWarren x = Warrens.withHares(Warrens.withChambers(1), 0, 0);
        x.say(0, 1, 9);
        x.passTicks(5);
        x.say(0, 1, 9);
        x.setListening(1, false);
        x.passTicks(7);
        for (int i = 0; i < 6; i++) {
            x.undo();
        }
        x.addHare(0);
        Check.due(50, 0, () -> x.received(1));
        Check.due(50, Check.ELEMENT, () -> x.latestNumber(1));
        Check.due(50, true, () -> x.isListening(1));
        x.say(1, 0, 4);
        x.say(0, 1, 5);
        Check.due(50, 0, () -> x.timesLost(1));
        Check.due(50, 0, () -> x.beatsDrummed(1));
        Check.due(50, "ww", () -> Warrens.states(x));
    }

    private static void whatIsNoChange() {
        DrumWarren x = Warrens.withHares(Warrens.withChambers(1), 0, 0);
        x.say(0, 1, 1);
        Check.due(51, 4, x::undoCount);
        x.writeCode(1);
        x.writeMessage(0);
        x.feed('c');
        x.save();
        x.ticksUntilDelivery(0);
        x.isConsistent();
        Check.answer(x::execute);
        Check.due(51, 4, x::undoCount);
        x.move(0, 0);
        Check.due(51, 5, x::undoCount);
        x.setListening(0, true);
        Check.due(51, 6, x::undoCount);
        Warrens.executeText(x, "tick 1;tick 1");
        Check.due(51, 7, x::undoCount);
    }

    private static void refusedCallsKeepHistory() {
        DrumWarren x = Warrens.withHares(Warrens.withChambers(2), 0, 0);
        for (int i = 0; i < 8; i++) {
            x.passTicks(1);
        }
        Check.answer(() -> x.addTunnel(0, 0, 1));
        Check.answer(() -> x.removeTunnel(0, 1));
        Check.answer(() -> x.addHare(2));
        Check.answer(() -> x.move(0, 2));
        Check.answer(() -> x.setListening(2, true));
        Check.answer(() -> x.say(0, 0, 1));
        Check.answer(() -> x.forget(0));
        Check.answer(() -> x.passTicks(0));
        Check.answer(() -> Warrens.executeText(x, "tick 3;go 0@2"));
        Check.answer(() -> Warrens.executeText(x, "tick 3;go 0@"));
        Check.answer(x::restore);
        Check.due(51, 8, x::undoCount);
        for (int left = 7; left >= 0; left--) {
            int due = left;
            Check.due(50, due, x::undo);
            Check.due(50, due, x::ticks);
        }
    }

    private static void undoOfText() {
        DrumWarren x = new DrumWarren();
        Warrens.executeText(x, "chamber;chamber;tunnel 0-1*2;hare 0;hare 1;say 0>1=1");
        Check.due(51, 1, x::undoCount);
        Warrens.executeText(x, "tick 5;say 1>0=1");
        Check.due(50, 1, x::undo);
        Check.due(50, "w", () -> Warrens.states(x));
        Check.due(50, 0, x::ticks);
        Check.due(50, 0, x::undo);
        Check.due(50, 0, x::chamberCount);
        Check.due(50, 0, x::hareCount);
        Check.due(50, 0, x::messageCount);
        Warrens.executeText(x, "chamber;hare 0;hare 0");
        Check.due(50, 0, () -> x.say(0, 1, 1));
    }

    private static void saveAndRestore() {
        DrumWarren x = new DrumWarren();
        Check.due(53, Check.STATE, x::restore);
        Check.due(52, 0, x::save);
        Warrens.executeText(x, "chamber;hare 0;hare 0");
        Check.due(52, 2, x::save);
        Check.due(52, 1, x::undoCount);
        x.addHare(0);
        Check.due(53, 2, x::restore);
        Check.due(53, 2, x::hareCount);
        Check.due(53, 0, x::undoCount);
        Check.due(53, Check.STATE, x::undo);
        x.addHare(0);
        x.addHare(0);
        Check.due(53, 2, x::restore);
        x.addHare(0);
        Check.due(51, 1, x::undoCount);
        Check.due(50, 0, x::undo);
        Check.due(53, 2, x::hareCount);
        x.addHare(0);
        Check.due(52, 3, x::save);
        x.undo();
        Check.due(53, 3, x::restore);
    }

    private static void restoreAll() {
        DrumWarren x = Warrens.withHares(Warrens.inARow(3), 0, 1);
        x.say(0, 1, 9);
        x.setListening(1, false);
        x.passTicks(7);
        x.save();
        Warrens.executeText(x, "listen 1;tick 13;say 1>0=1;go 1@0;chamber;tick 9");
        x.removeTunnel(0, 1);
        x.restore();
        Check.due(53, 7, x::ticks);
        Check.due(53, "d", () -> Warrens.states(x));
        Check.due(53, 1, () -> x.timesLost(0));
        Check.due(53, 2, () -> x.beatsDrummed(0));
        Check.due(53, 1, () -> x.thumpsHeard(1, 8));
        Check.due(53, 0, () -> x.thumpsHeard(1, 11));
        Check.due(53, 3, x::thumpsDrummed);
        Check.due(53, 1, x::losses);
        Check.due(53, 0, x::deliveries);
        Check.due(53, 3, () -> x.tunnelDelay(0, 1));
        Check.due(53, 2, x::chamberCount);
        Check.due(53, 1, () -> x.chamberOf(1));
        Check.due(53, false, () -> x.isListening(1));
        Check.due(53, 1, () -> x.say(0, 1, 1));
    }
}
