import java.util.function.Supplier;

/** The boundary cases of "Terms", from the commands to the exceptions. */
final class TextTermsEdgesTest extends SentenceTests {
    private TextTermsEdgesTest() {
    }

    static void run() {
        buffer();
        forms();
        numbers();
        malformedTexts();
        changes();
        latestChanges();
        whatUndoLeaves();
        refusedCalls();
        firstListed();
    }

    private static DrumWarren twoHares() {
        return Warrens.withHares(Warrens.withChambers(2), 0, 0);
    }

    /** The text is well-formed, whether its commands succeed or not. */
    private static void wellFormed(String text) {
        DrumWarren x = twoHares();
        Warrens.feedAll(x, text);
        due(true, () -> Check.answer(x::execute) != Check.ARGUMENT);
        due(Check.ELEMENT, x::errorPosition);
    }

    private static void malformed(String text, int position) {
        DrumWarren x = twoHares();
        due(Check.ARGUMENT, () -> Warrens.executeText(x, text));
        due(position, x::errorPosition);
        due(Check.ELEMENT, x::failedCommand);
    }

    private static void buffer() {
        test(TERMS, "The input buffer holds at most 60 characters.", () -> {
            DrumWarren x = new DrumWarren();
            for (int i = 1; i <= 60; i++) {
                due(i, () -> x.feed(';'));
            }
            due(Check.STATE, () -> x.feed(';'));
            // 60 characters that make up a text are all read.
            DrumWarren y = new DrumWarren();
            String text = "chamber;chamber;chamber;chamber;chamber;chamber;tunnel 5-0*9";
            due(60, text::length);
            due(7, () -> Warrens.executeText(y, text));
            due(9, () -> y.tunnelDelay(0, 5));
        });
    }

    private static void forms() {
        test(TERMS, "A text consists of one or more commands, separated by semicolons: \"chamber\" adds a chamber; "
                + "\"tunnel \", a digit, \"-\", a digit, \"*\" and a digit joins two chambers by a tunnel with a delay; "
                + "\"hare \" and a digit adds a hare in a chamber; \"say \", a digit, \">\", a digit, \"=\" and a number "
                + "adds a message with a sender, a receiver and a number;", () -> {
                    DrumWarren x = new DrumWarren();
                    due(Check.ARGUMENT, x::execute);
                    due(1, () -> Warrens.executeText(x, "chamber"));
                    due(3, () -> Warrens.executeText(x, "chamber;chamber;chamber"));
                    due(4, x::chamberCount);
                    due(2, () -> Warrens.executeText(x, "tunnel 0-1*1;tunnel 3-2*9"));
                    due(1, () -> x.tunnelDelay(1, 0));
                    due(9, () -> x.tunnelDelay(2, 3));
                    due(2, () -> Warrens.executeText(x, "hare 0;hare 3"));
                    due(3, () -> x.chamberOf(1));
                    due(true, () -> x.isListening(1));
                    due(2, () -> Warrens.executeText(x, "say 0>1=0;say 1>0=15"));
                    due("0:0>1=0w", () -> Warrens.written(x, 0));
                    due("1:1>0=15w", () -> Warrens.written(x, 1));
                    malformed(";", 0);
                    malformed(";chamber", 0);
                    malformed("chamber;", 8);
                    malformed("chamber;;chamber", 8);
                    malformed("chamberchamber", 7);
                    malformed("tunnel 0-1*12", 12);
                    malformed("tunnel 10-1*1", 8);
                    malformed("tunnel 0-11*1", 10);
                    malformed("hare 00", 6);
                    malformed("say 00>1=1", 5);
                    malformed("say 0>11=1", 7);
                    // Eight commands are the most that the input buffer holds.
                    due(8, () -> Warrens.executeText(x, "hare 0;tick 1;tick 1;tick 1;tick 1;tick 1;tick 1;tick 40"));
                    due(46, x::ticks);
                });
        test(TERMS, "\"listen \" and a digit, and \"sleep \" and a digit, let a hare listen or not; \"go \", a digit, "
                + "\"@\" and a digit moves a hare to a chamber;", () -> {
                    DrumWarren x = Warrens.withHares(Warrens.withChambers(8), 0, 0, 0, 0, 0, 0);
                    due(2, () -> Warrens.executeText(x, "sleep 0;sleep 5"));
                    due(false, () -> x.isListening(0));
                    due(false, () -> x.isListening(5));
                    due(true, () -> x.isListening(4));
                    due(1, () -> Warrens.executeText(x, "listen 5"));
                    due(true, () -> x.isListening(5));
                    due(false, () -> x.isListening(0));
                    due(2, () -> Warrens.executeText(x, "go 5@7;go 0@0"));
                    due(7, () -> x.chamberOf(5));
                    due(0, () -> x.chamberOf(0));
                    malformed("listen ", 7);
                    malformed("listen 00", 8);
                    malformed("sleep ", 6);
                    malformed("sleep 00", 7);
                    malformed("go 00@0", 4);
                    malformed("go 0@00", 6);
                    malformed("go 0@", 5);
                });
        test(TERMS, "\"tick \" and a number lets ticks pass.", () -> {
            DrumWarren x = twoHares();
            due(1, () -> Warrens.executeText(x, "tick 1"));
            due(1, x::ticks);
            due(1, () -> Warrens.executeText(x, "tick 40"));
            due(41, x::ticks);
            due(Check.UNSUPPORTED, () -> Warrens.executeText(x, "tick 0"));
            due(Check.UNSUPPORTED, () -> Warrens.executeText(x, "tick 41"));
            due(41, x::ticks);
            malformed("tick", 4);
            malformed("tick ", 5);
        });
    }

    private static void numbers() {
        test(TERMS, "Numbers have one or two digits.", () -> {
            DrumWarren x = twoHares();
            due(1, () -> Warrens.executeText(x, "tick 9"));
            due(1, () -> Warrens.executeText(x, "tick 10"));
            due(1, () -> Warrens.executeText(x, "tick 05"));
            due(24, x::ticks);
            due(2, () -> Warrens.executeText(x, "say 0>1=9;say 0>1=10"));
            due("0:0>1=9w", () -> Warrens.written(x, 0));
            due("1:0>1=10w", () -> Warrens.written(x, 1));
            wellFormed("tick 99");
            wellFormed("tick 00");
            wellFormed("say 0>1=99");
            malformed("tick ", 5);
            malformed("tick ;chamber", 5);
            malformed("tick 100", 7);
            malformed("tick 001", 7);
            malformed("say 0>1=", 8);
            malformed("say 0>1=;chamber", 8);
            malformed("say 0>1=100", 10);
            malformed("tick -1", 5);
            malformed("tick " + (char) ('0' - 1), 5);
            malformed("tick " + (char) ('9' + 1), 5);
            malformed("tick 1" + (char) ('0' - 1), 6);
            malformed("tick 1" + (char) ('9' + 1), 6);
        });
        test(TERMS, "Keywords are compared letter by letter.", () -> {
            for (String word : new String[] {"chamber", "tunnel", "hare", "say", "listen", "sleep", "go", "tick"}) {
                for (int i = 0; i < word.length(); i++) {
                    String capital = word.substring(0, i) + Character.toUpperCase(word.charAt(i)) + word.substring(i + 1);
                    malformed(capital, i);
                    malformed(word.substring(0, i) + '?' + word.substring(i + 1), i);
                    malformed(word.substring(0, i), i);
                }
                malformed(word + word, word.length());
            }
        });
    }

    private static void malformedTexts() {
        test(TERMS, "A text is malformed if it does not have this form.", () -> {
            malformed("", 0);
            malformed(" ", 0);
            malformed(" chamber", 0);
            malformed("chamber ", 7);
            malformed("chamber; chamber", 8);
            malformed("chamber,chamber", 7);
            malformed("tunnel  0-1*1", 7);
            malformed("tunnel 0 1*1", 8);
            malformed("tunnel 0-1 1", 10);
            malformed("say 0<1=1", 5);
            malformed("say 0>1 1", 7);
            malformed("go 0 1", 4);
            malformed("hare0", 4);
            malformed("hare -1", 5);
            malformed("chamber\n", 7);
            malformed("chamber" + (char) 0, 7);
            malformed("hare " + (char) 0xFF10, 5);
            // What its commands would do does not matter.
            wellFormed("tunnel 9-9*0");
            wellFormed("hare 9;say 9>9=99;listen 9;sleep 9;go 9@9;tick 99");
        });
        test(TERMS, "Its error position is the index of the first character that cannot continue a well-formed text, or the "
                + "length of the text if the text ends too early.", () -> {
                    String whole = "chamber;tunnel 0-1*2;hare 0;say 0>1=12;go 0@1;listen 1;tick";
                    for (int length = 0; length < whole.length(); length++) {
                        beginningOf(whole, length);
                    }
                    malformed("sx", 1);
                    malformed("tx", 1);
                    malformed("say 0>1=1x", 9);
                    malformed("say 0>1=12x", 10);
                    malformed("x".repeat(60), 0);
                    malformed("tick 1;tick 1;tick 1;tick 1;tick 1;tick 1;tick 1;tick 1;tick", 60);
                    malformed("tick 1;tick 1;tick 1;tick 1;tick 1;tick 1;tick 1;tick 1;ticx", 59);
                    // The first one counts, though there are others behind it.
                    malformed("chamberX;hareX;X", 7);
                });
    }

    /** A text that ends too early, and the same with a character behind it that fits nowhere. */
    private static void beginningOf(String whole, int length) {
        String text = whole.substring(0, length);
        boolean isWhole = length > 0 && whole.charAt(length) == ';' || text.endsWith("=1");
        if (!isWhole) {
            malformed(text, length);
        }
        malformed(text + "!", length);
    }

    private static void changes() {
        test(TERMS, "A successful call of addChamber, addTunnel, removeTunnel, addHare, move, setListening, say, forget, "
                + "passTicks or execute is a change.", () -> {
                    isAChange(DrumWarren::addChamber);
                    isAChange(x -> x.addTunnel(0, 3, 9));
                    isAChange(x -> x.removeTunnel(0, 1));
                    isAChange(x -> x.addHare(0));
                    isAChange(x -> x.move(1, 0));
                    isAChange(x -> x.setListening(0, false));
                    isAChange(x -> x.say(1, 0, 4));
                    isAChange(x -> x.forget(0));
                    isAChange(x -> x.passTicks(1));
                    isAChange(x -> Warrens.executeText(x, "tick 1;tick 1;chamber"));
                    // They are changes even if everything is afterwards as before.
                    DrumWarren x = twoHares();
                    x.move(0, 0);
                    due(5, x::undoCount);
                    x.setListening(0, true);
                    due(6, x::undoCount);
                    Warrens.executeText(x, "listen 0");
                    due(7, x::undoCount);
                    noChanges();
                });
    }

    private static DrumWarren fewChanges() {
        DrumWarren x = new DrumWarren();
        Warrens.executeText(x, "chamber;chamber;chamber;chamber;tunnel 0-1*2;hare 0;hare 1");
        x.say(0, 1, 9);
        return x;
    }

    private static void isAChange(Act change) {
        DrumWarren x = fewChanges();
        due(2, x::undoCount);
        change.on(x);
        due(3, x::undoCount);
        due(2, x::undo);
        due(Picture.ofState(fewChanges()), () -> Picture.ofState(x));
    }

    private static void noChanges() {
        DrumWarren x = fewChanges();
        x.writeCode(1);
        x.writeMessage(0);
        x.feed('?');
        x.save();
        x.ticksUntilDelivery(0);
        x.isConsistent();
        Check.answer(x::execute);
        Check.answer(() -> Warrens.executeText(x, "hare 9"));
        Check.answer(() -> x.passTicks(0));
        due(2, x::undoCount);
    }

    private static void latestChanges() {
        test(TERMS, "At most the latest 8 changes that are not undone can be undone; undoing a change also restores the id "
                + "that is given next.", () -> {
                    DrumWarren x = twoHares();
                    for (int i = 0; i < 9; i++) {
                        x.passTicks(1);
                    }
                    for (int left = 7; left >= 0; left--) {
                        due(left, x::undo);
                    }
                    due(Check.STATE, x::undo);
                    due(1, x::ticks);
                    // Exactly 8 changes can all be undone.
                    DrumWarren y = twoHares();
                    for (int i = 0; i < 4; i++) {
                        y.passTicks(1);
                    }
                    for (int left = 7; left >= 0; left--) {
                        due(left, y::undo);
                    }
                    due(0, y::chamberCount);
                    DrumWarren ids = twoHares();
                    due(0, () -> ids.say(0, 1, 1));
                    due(1, () -> ids.say(0, 1, 1));
                    ids.undo();
                    due(1, () -> ids.say(0, 1, 1));
                    ids.undo();
                    ids.undo();
                    due(0, () -> ids.say(0, 1, 1));
                    due(0, () -> ids.forget(0));
                    due(1, () -> ids.say(0, 1, 1));
                    ids.undo();
                    ids.undo();
                    due(1, () -> ids.say(0, 1, 1));
                });
    }

    private static void whatUndoLeaves() {
        test(TERMS, "The input buffer, the output, the error position and the failed command are affected neither by undo "
                + "nor by saving.", () -> {
                    DrumWarren x = twoHares();
                    x.addChamber();
                    x.save();
                    x.writeCode(15);
                    Check.answer(() -> Warrens.executeText(x, "hare 0;x"));
                    Check.answer(() -> Warrens.executeText(x, "hare 0;hare 9"));
                    x.feed('t');
                    x.undo();
                    deskIsUntouched(x, 2);
                    x.save();
                    deskIsUntouched(x, 3);
                    x.restore();
                    deskIsUntouched(x, 4);
                    x.addChamber();
                    x.undo();
                    deskIsUntouched(x, 5);
                    // Undoing a text does not bring the input back, undoing what came before it neither.
                    DrumWarren y = twoHares();
                    Warrens.executeText(y, "tick 1");
                    y.undo();
                    due(1, () -> y.feed('c'));
                    due(Check.ELEMENT, y::errorPosition);
                    due(Check.ELEMENT, y::failedCommand);
                });
    }

    private static void deskIsUntouched(DrumWarren x, int lengthOfInput) {
        due(lengthOfInput, () -> x.feed('t'));
        due("xxxx.", () -> Warrens.output(x));
        due(7, x::errorPosition);
        due(1, x::failedCommand);
    }

    private static void refusedCalls() {
        test(TERMS, "A call that throws an exception changes nothing, unless its description says otherwise.", () -> {
            Supplier<DrumWarren> busy = Warrens::busy;
            refused(Check.INDEX, busy, x -> x.addTunnel(0, 4, 1));
            refused(Check.ARGUMENT, busy, x -> x.addTunnel(0, 0, 1));
            refused(Check.STATE, busy, x -> x.addTunnel(0, 1, 1));
            refused(Check.INDEX, busy, x -> x.removeTunnel(1, 4));
            refused(Check.ELEMENT, busy, x -> x.removeTunnel(0, 2));
            refused(Check.INDEX, busy, x -> x.addHare(4));
            refused(Check.INDEX, busy, x -> x.move(0, 4));
            refused(Check.STATE, busy, x -> x.move(2, 1));
            refused(Check.INDEX, busy, x -> x.setListening(4, false));
            refused(Check.INDEX, busy, x -> x.say(0, 4, 1));
            refused(Check.ARGUMENT, busy, x -> x.say(0, 1, 16));
            refused(Check.ELEMENT, busy, x -> x.forget(5));
            refused(Check.STATE, busy, x -> x.forget(1));
            refused(Check.STATE, busy, x -> x.ticksUntilDelivery(0));
            refused(Check.UNSUPPORTED, busy, x -> x.ticksUntilDelivery(2));
            refused(Check.ARGUMENT, busy, x -> x.passTicks(41));
            refused(Check.ARGUMENT, busy, x -> x.thumpsHeard(0, 89));
            refused(Check.ELEMENT, busy, x -> x.writeMessage(5));
            refused(Check.ARGUMENT, busy, x -> x.writeCode(16));
            refused(Check.INDEX, busy, x -> x.outputCharacter(5));
            refused(Check.STATE, Warrens::full, DrumWarren::addChamber);
            refused(Check.STATE, Warrens::full, x -> x.addHare(0));
            refused(Check.STATE, Warrens::full, x -> x.say(0, 1, 1));
            refused(Check.STATE, DrumWarren::new, DrumWarren::undo);
            refused(Check.STATE, TextTermsEdgesTest::twoHares, DrumWarren::restore);
            textsThatThrow();
        });
    }

    /** The input is emptied and the place of the error is kept, as the description of execute says; no more. */
    private static void textsThatThrow() {
        DrumWarren malformed = Warrens.busy();
        due(Check.ARGUMENT, () -> Warrens.executeText(malformed, "amber;tick 3;sleep 1;x"));
        textHasThrown(malformed, 23, 1);
        DrumWarren failing = Warrens.busy();
        due(Check.UNSUPPORTED, () -> Warrens.executeText(failing, "amber;tick 3;sleep 1;say 0>1=2;hare 0;hare 9"));
        textHasThrown(failing, 5, 5);
    }

    private static void textHasThrown(DrumWarren x, int errorPosition, int failedCommand) {
        due(".x.x.", () -> Warrens.output(x));
        due(errorPosition, x::errorPosition);
        due(failedCommand, x::failedCommand);
        due(1, () -> x.feed('c'));
        due(Picture.withoutDesk(Warrens.busy()), () -> Picture.withoutDesk(x));
    }

    private static void firstListed() {
        test(TERMS, "If several conditions for exceptions hold, the one that is listed first decides.", () -> {
            DrumWarren x = Warrens.busy();
            due(Check.INDEX, () -> x.addTunnel(4, 4, 1));
            due(Check.INDEX, () -> x.addTunnel(0, 4, 0));
            due(Check.INDEX, () -> x.addTunnel(-1, 1, 10));
            due(Check.ARGUMENT, () -> x.addTunnel(0, 1, 0));
            due(Check.ARGUMENT, () -> x.addTunnel(1, 0, 10));
            due(Check.INDEX, () -> x.removeTunnel(0, 4));
            due(Check.INDEX, () -> x.tunnelDelay(4, 4));
            due(Check.INDEX, () -> x.shortestDelay(4, 0));
            due(Check.INDEX, () -> x.shortestDelayBySearch(3, 4));
            due(Check.INDEX, () -> x.move(2, 4));
            due(Check.INDEX, () -> x.latestNumber(4));
            due(Check.INDEX, () -> x.say(4, 4, 1));
            due(Check.INDEX, () -> x.say(0, -1, 16));
            due(Check.ARGUMENT, () -> x.isThump(16, 5));
            due(Check.ARGUMENT, () -> x.isThump(-1, -1));
            // 32 has an odd number of beats that are 1.
            due(Check.ARGUMENT, () -> x.decode(32));
            due(Check.INDEX, () -> x.thumpsHeard(4, 1000));
            // Message 0 was delivered, so that it is not delivered within 60 ticks either.
            due(Check.STATE, () -> x.ticksUntilDelivery(0));
            due(Check.ARGUMENT, () -> Warrens.executeText(twoHares(), "hare 9;x"));
            DrumWarren full = Warrens.full();
            due(Check.INDEX, () -> full.addHare(8));
            due(Check.INDEX, () -> full.say(0, 6, 1));
            due(Check.ARGUMENT, () -> full.say(0, 0, 1));
            due(Check.ARGUMENT, () -> full.say(0, 1, 16));
        });
    }
}
