import java.util.function.Supplier;

/** The boundary cases of the promises 46 to 53: commands, undo and saved state. */
final class CommandEdgesTest extends SentenceTests {
    private CommandEdgesTest() {
    }

    static void run() {
        feed();
        execute();
        executeRefused();
        errorPosition();
        failedCommand();
        undo();
        undoCount();
        save();
        restore();
        restoreRefused();
    }

    private static DrumWarren twoHares() {
        return Warrens.withHares(Warrens.withChambers(2), 0, 0);
    }

    private static DrumWarren fed(int characters) {
        DrumWarren x = new DrumWarren();
        Warrens.feedAll(x, "x".repeat(characters));
        return x;
    }

    private static DrumWarren passed(int changes) {
        DrumWarren x = new DrumWarren();
        for (int i = 0; i < changes; i++) {
            x.passTicks(1);
        }
        return x;
    }

    private static void feed() {
        test(46, "Returns the new length of the input buffer.", () -> {
            DrumWarren x = new DrumWarren();
            for (int length = 1; length <= 60; length++) {
                due(length, () -> x.feed('c'));
            }
            Check.answer(() -> x.feed('c'));
            Check.answer(x::execute);
            due(1, () -> x.feed('c'));
            // Any character counts: the least, the greatest, and those beside the 128 and 256 first ones.
            for (int code : new int[] {0, 127, 128, 255, 256, 0x8000, 0xD800, 0xFFFF}) {
                DrumWarren y = fed(3);
                due(4, () -> y.feed((char) code));
                due(Check.ARGUMENT, y::execute);
                due(0, y::errorPosition);
            }
        });
        test(46, "Throws `IllegalStateException` if the input buffer holds 60 characters", () -> {
            due(60, () -> fed(59).feed(';'));
            for (char character : new char[] {';', 'x', 0, 0xFFFF}) {
                refused(Check.STATE, () -> fed(60), x -> x.feed(character));
            }
            // What was refused is not read: the text ends too early, at 60.
            DrumWarren x = new DrumWarren();
            Warrens.feedAll(x, "tick 1;".repeat(8) + "tick");
            due(Check.STATE, () -> x.feed(' '));
            due(Check.ARGUMENT, x::execute);
            due(60, x::errorPosition);
        });
    }

    private static void execute() {
        test(47, "Executes the text in the input buffer, command by command, either all commands or none.", () -> {
            DrumWarren x = new DrumWarren();
            // Each command needs the one before it.
            due(6, () -> Warrens.executeText(x, "chamber;hare 0;hare 0;say 0>1=7;tick 4;tick 1"));
            due("0:0>1=7r", () -> Warrens.written(x, 0));
            for (String text : new String[] {"hare 9", "tick 40;hare 9", "sleep 1;go 0@0;say 1>0=3;tick 7;hare 0;go 0@1"}) {
                DrumWarren y = Warrens.withHares(Warrens.withChambers(1), 0, 0);
                y.say(0, 1, 15);
                y.passTicks(2);
                due(Check.UNSUPPORTED, () -> Warrens.executeText(y, text));
                DrumWarren spared = Warrens.withHares(Warrens.withChambers(1), 0, 0);
                spared.say(0, 1, 15);
                spared.passTicks(2);
                due(Picture.withoutDesk(spared), () -> Picture.withoutDesk(y));
            }
        });
        test(47, "The input buffer is empty afterwards, also if an exception is thrown.", () -> {
            DrumWarren x = twoHares();
            Warrens.executeText(x, "tick 1");
            due(1, () -> x.feed('c'));
            due(Check.ARGUMENT, x::execute);
            due(1, () -> x.feed('c'));
            Warrens.feedAll(x, "hamber;hare 9");
            due(Check.UNSUPPORTED, x::execute);
            due(1, () -> x.feed('c'));
            Warrens.feedAll(x, "hamber");
            due(1, x::execute);
            due(Check.ARGUMENT, x::execute);
            due(0, x::errorPosition);
            // Nothing of the text before is read behind the end of a shorter one.
            DrumWarren y = twoHares();
            Warrens.executeText(y, "tick 12");
            due(1, () -> Warrens.executeText(y, "tick 1"));
            due(13, y::ticks);
            due(Check.ARGUMENT, () -> Warrens.executeText(y, "tick "));
            due(5, y::errorPosition);
            due(Check.ARGUMENT, () -> Warrens.executeText(y, "tick 1;"));
            due(7, y::errorPosition);
        });
        test(47, "Returns the number of commands.", () -> {
            StringBuilder text = new StringBuilder("tick 1");
            for (int i = 1; i <= 8; i++) {
                int commands = i;
                DrumWarren x = new DrumWarren();
                due(commands, () -> Warrens.executeText(x, text.toString()));
                due(commands, x::ticks);
                text.append(";tick 1");
            }
        });
    }

    private static void executeRefused() {
        test(47, "Throws `IllegalArgumentException` if the text is malformed; its error position is kept", () -> {
            for (String text : new String[] {"", "x", "tick 1;", "chamber;tick 1;hare", "chamber;hare 9;x"}) {
                DrumWarren x = twoHares();
                Warrens.feedAll(x, text);
                due(Check.ARGUMENT, x::execute);
                due(text.endsWith("x") ? text.length() - 1 : text.length(), x::errorPosition);
                due(Check.ELEMENT, x::failedCommand);
                due(Picture.withoutDesk(twoHares()), () -> Picture.withoutDesk(x));
            }
        });
        test(47, "Throws `UnsupportedOperationException` if a command throws an exception; the index of the command, from 0, "
                + "is kept as the failed command", () -> {
                    failsAt(0, "tunnel 0-2*1");
                    failsAt(0, "tunnel 0-0*1");
                    failsAt(0, "tunnel 0-1*0");
                    failsAt(1, "tunnel 0-1*9;tunnel 1-0*1");
                    failsAt(0, "hare 2");
                    failsAt(4, "hare 0;hare 0;hare 0;hare 0;hare 0");
                    failsAt(0, "say 0>2=1");
                    failsAt(0, "say 2>0=1");
                    failsAt(0, "say 0>0=1");
                    failsAt(0, "say 0>1=16");
                    failsAt(0, "listen 2");
                    failsAt(0, "sleep 2");
                    failsAt(0, "go 2@0");
                    failsAt(0, "go 0@2");
                    failsAt(2, "say 0>1=1;tick 1;go 0@0");
                    failsAt(0, "tick 0");
                    failsAt(0, "tick 41");
                    failsAt(6, "chamber;chamber;chamber;chamber;chamber;chamber;chamber");
                    failsAt(7, "tick 1;tick 1;tick 1;tick 1;tick 1;tick 1;tick 1;hare 9");
                    // The first one that fails decides.
                    failsAt(1, "tick 1;hare 9;hare 9");
                    DrumWarren full = Warrens.full();
                    due(Check.UNSUPPORTED, () -> Warrens.executeText(full, "tick 1;say 0>1=1"));
                    due(1, full::failedCommand);
                });
    }

    private static void failsAt(int index, String text) {
        DrumWarren x = Warrens.withHares(Warrens.withChambers(2), 0, 0);
        due(Check.UNSUPPORTED, () -> Warrens.executeText(x, text));
        due(index, x::failedCommand);
        due(Check.ELEMENT, x::errorPosition);
        due(Picture.withoutDesk(twoHares()), () -> Picture.withoutDesk(x));
    }

    private static void errorPosition() {
        test(48, "Returns the error position that was kept last.", () -> {
            DrumWarren x = twoHares();
            Check.answer(() -> Warrens.executeText(x, "tick 1;x"));
            due(7, x::errorPosition);
            Check.answer(x::execute);
            due(0, x::errorPosition);
            Check.answer(() -> Warrens.executeText(x, "tick 1;".repeat(8) + "tick"));
            due(60, x::errorPosition);
            // Neither a text that is executed nor one that fails changes it.
            Warrens.executeText(x, "tick 1");
            due(60, x::errorPosition);
            Check.answer(() -> Warrens.executeText(x, "tick 1;hare 9"));
            due(60, x::errorPosition);
        });
        test(48, "Throws `NoSuchElementException` if none was kept", () -> {
            refused(Check.ELEMENT, DrumWarren::new, DrumWarren::errorPosition);
            DrumWarren x = twoHares();
            Warrens.executeText(x, "tick 1");
            Check.answer(() -> Warrens.executeText(x, "hare 9"));
            due(Check.ELEMENT, x::errorPosition);
            due(Check.ARGUMENT, x::execute);
            due(0, x::errorPosition);
        });
    }

    private static void failedCommand() {
        test(49, "Returns the failed command that was kept last.", () -> {
            DrumWarren x = twoHares();
            Check.answer(() -> Warrens.executeText(x, "tick 1;tick 1;tick 1;tick 1;tick 1;tick 1;tick 1;hare 9"));
            due(7, x::failedCommand);
            Check.answer(() -> Warrens.executeText(x, "hare 9"));
            due(0, x::failedCommand);
            Check.answer(() -> Warrens.executeText(x, "tick 1;hare 9"));
            due(1, x::failedCommand);
            // Neither a text that is executed nor a malformed one changes it.
            Warrens.executeText(x, "tick 1");
            due(1, x::failedCommand);
            Check.answer(x::execute);
            due(1, x::failedCommand);
        });
        test(49, "Throws `NoSuchElementException` if none was kept", () -> {
            refused(Check.ELEMENT, DrumWarren::new, DrumWarren::failedCommand);
            DrumWarren x = twoHares();
            Warrens.executeText(x, "tick 1");
            Check.answer(() -> Warrens.executeText(x, "hare 9;x"));
            due(Check.ELEMENT, x::failedCommand);
            due(Check.UNSUPPORTED, () -> Warrens.executeText(x, "hare 9"));
            due(0, x::failedCommand);
        });
    }

    private static void undo() {
        test(50, "Undoes the latest change that is not undone.", () -> {
            DrumWarren x = passed(3);
            x.addChamber();
            x.undo();
            due(0, x::chamberCount);
            due(3, x::ticks);
            x.undo();
            due(2, x::ticks);
            // A change after an undo is the latest one, and behind it comes what was not undone.
            x.passTicks(40);
            x.undo();
            due(2, x::ticks);
            x.undo();
            due(1, x::ticks);
            // A refused call is no change.
            x.addChamber();
            Check.answer(() -> x.passTicks(41));
            x.undo();
            due(0, x::chamberCount);
            due(1, x::ticks);
            DrumWarren y = counted();
            y.passTicks(7);
            countsAre(y, 22, 12, 2, 2);
            y.undo();
            countsAre(y, 15, 10, 2, 1);
            undoneWhileDrumming();
        });
        test(50, "Returns the number of changes that can still be undone.", () -> {
            for (int made : new int[] {1, 7, 8, 9, 17, 200}) {
                DrumWarren x = passed(made);
                int can = Math.min(8, made);
                for (int i = 1; i <= can; i++) {
                    int undone = i;
                    due(can - undone, x::undo);
                    due(made - undone, x::ticks);
                }
            }
            // With eight again after an undo and a change.
            DrumWarren x = passed(9);
            due(7, x::undo);
            x.passTicks(40);
            due(8, x::undoCount);
            for (int left = 7; left >= 0; left--) {
                due(left, x::undo);
                due(left + 1, x::ticks);
            }
        });
        test(50, "Throws `IllegalStateException` if there is none", () -> {
            refused(Check.STATE, DrumWarren::new, DrumWarren::undo);
            for (int made : new int[] {1, 8, 9}) {
                Supplier<DrumWarren> undone = () -> {
                    DrumWarren x = passed(made);
                    for (int i = 0; i < Math.min(8, made); i++) {
                        x.undo();
                    }
                    return x;
                };
                refused(Check.STATE, undone, DrumWarren::undo);
            }
            DrumWarren x = new DrumWarren();
            Check.answer(() -> x.passTicks(0));
            Check.answer(() -> x.addHare(0));
            x.writeCode(1);
            x.feed('c');
            x.save();
            due(Check.STATE, x::undo);
        });
    }

    /** Two messages were delivered and one was lost once, each count is another one. */
    private static DrumWarren counted() {
        DrumWarren x = Warrens.withHares(Warrens.withChambers(1), 0, 0);
        x.say(0, 1, 15);
        x.say(0, 1, 15);
        x.passTicks(10);
        x.setListening(1, false);
        x.say(0, 1, 1);
        x.passTicks(5);
        return x;
    }

    private static void countsAre(DrumWarren x, int ticks, int thumps, int deliveries, int losses) {
        due(ticks, x::ticks);
        due(thumps, x::thumpsDrummed);
        due(deliveries, x::deliveries);
        due(losses, x::losses);
        due(2, () -> x.received(1));
        due(3, x::messageCount);
    }

    /** The thumps of the attempt to which undo leads back count, not those of the attempt that is undone. */
    private static void undoneWhileDrumming() {
        DrumWarren x = Warrens.withHares(Warrens.inARow(9), 0, 1);
        x.passTicks(40);
        x.say(0, 1, 15);
        x.passTicks(4);
        x.setListening(1, false);
        x.passTicks(5);
        x.undo();
        x.undo();
        due(4, () -> x.beatsDrummed(0));
        due(1, () -> x.passTicks(1));
    }

    private static void undoCount() {
        test(51, "Returns the number of changes, at most 8.", () -> {
            DrumWarren x = new DrumWarren();
            due(0, x::undoCount);
            for (int made = 1; made <= 20; made++) {
                x.passTicks(1);
                due(Math.min(8, made), x::undoCount);
            }
            Check.answer(() -> x.passTicks(41));
            due(8, x::undoCount);
            for (int left = 7; left >= 0; left--) {
                x.undo();
                due(left, x::undoCount);
            }
            Check.answer(x::undo);
            due(0, x::undoCount);
        });
    }

    private static void save() {
        test(52, "Saves everything that changes can change, in place of what was saved before.", () -> {
            DrumWarren x = new DrumWarren();
            x.save();
            x.passTicks(5);
            x.save();
            x.passTicks(5);
            x.restore();
            due(5, x::ticks);
            // The same as if it had been kept apart, in the emptiest, the fullest and a busy warren.
            savedWhole(DrumWarren::new);
            savedWhole(Warrens::busy);
            savedWhole(Warrens::full);
            DrumWarren z = counted();
            z.save();
            z.passTicks(7);
            z.restore();
            countsAre(z, 15, 10, 2, 1);
            // Saving keeps the changes that can be undone.
            DrumWarren y = passed(9);
            y.save();
            due(8, y::undoCount);
            due(7, y::undo);
            due(8, y::ticks);
        });
        test(52, "Returns the number of hares.", () -> {
            DrumWarren x = Warrens.withChambers(1);
            due(0, x::save);
            for (int hares = 1; hares <= 6; hares++) {
                x.addHare(0);
                due(hares, x::save);
            }
            Check.answer(() -> x.addHare(0));
            due(6, x::save);
        });
    }

    private static void savedWhole(Supplier<DrumWarren> made) {
        DrumWarren x = made.get();
        x.save();
        Check.answer(() -> x.forget(0));
        Check.answer(() -> x.removeTunnel(0, 1));
        Check.answer(() -> x.setListening(1, false));
        x.passTicks(3);
        Check.answer(() -> x.move(1, 0));
        Check.answer(() -> x.say(1, 0, 12));
        Check.answer(() -> x.addHare(0));
        Check.answer(x::addChamber);
        x.restore();
        DrumWarren spared = made.get();
        spared.save();
        spared.restore();
        due(Picture.ofState(spared), () -> Picture.ofState(x));
    }

    private static void restore() {
        test(53, "Restores what was saved last, which stays saved.", () -> {
            DrumWarren x = passed(1);
            x.save();
            for (int time = 0; time < 3; time++) {
                x.passTicks(40);
                x.addChamber();
                x.restore();
                due(1, x::ticks);
                due(0, x::chamberCount);
            }
            x.restore();
            due(1, x::ticks);
            // Neither undoing nor changing afterwards touches what is saved.
            x.passTicks(2);
            x.undo();
            x.passTicks(3);
            x.save();
            x.undo();
            x.passTicks(9);
            x.restore();
            due(4, x::ticks);
        });
        test(53, "Afterwards no change can be undone.", () -> {
            for (int made : new int[] {0, 1, 8, 9}) {
                DrumWarren x = passed(made);
                x.save();
                x.restore();
                due(0, x::undoCount);
                due(Check.STATE, x::undo);
                due(made, x::ticks);
                x.passTicks(1);
                due(1, x::undoCount);
                due(0, x::undo);
                due(made, x::ticks);
            }
        });
    }

    private static void restoreRefused() {
        test(53, "Returns the number of hares.", () -> {
            DrumWarren x = Warrens.withChambers(1);
            x.save();
            x.addHare(0);
            due(0, x::restore);
            for (int hares = 1; hares <= 6; hares++) {
                x.addHare(0);
                x.save();
                due(hares, x::restore);
            }
            x.setListening(0, false);
            due(6, x::restore);
        });
        test(53, "Throws `IllegalStateException` if nothing was saved", () -> {
            refused(Check.STATE, DrumWarren::new, DrumWarren::restore);
            refused(Check.STATE, Warrens::full, DrumWarren::restore);
            refused(Check.STATE, () -> passed(9), DrumWarren::restore);
            DrumWarren x = passed(1);
            due(Check.STATE, x::restore);
            due(0, x::undo);
            due(0, x::save);
            due(0, x::restore);
        });
    }
}
