/** Warrens to begin a test with, and calls that many tests need. */
final class Warrens {
    private Warrens() {
    }

    static DrumWarren withChambers(int chambers) {
        DrumWarren warren = new DrumWarren();
        for (int i = 0; i < chambers; i++) {
            warren.addChamber();
        }
        return warren;
    }

    /** Chambers in a row, each joined to the next one with the delay given. */
    static DrumWarren inARow(int... delays) {
        DrumWarren warren = withChambers(delays.length + 1);
        for (int i = 0; i < delays.length; i++) {
            warren.addTunnel(i, i + 1, delays[i]);
        }
        return warren;
    }

    static DrumWarren withHares(DrumWarren warren, int... chambers) {
        for (int chamber : chambers) {
            warren.addHare(chamber);
        }
        return warren;
    }

    /** Everything that can be full but the history and the input: 8 chambers, 28 tunnels, 6 hares, 8 messages. */
    static DrumWarren full() {
        DrumWarren warren = withHares(withChambers(8), 0, 1, 2, 3, 4, 7);
        for (int first = 0; first < 8; first++) {
            for (int second = 0; second < first; second++) {
                warren.addTunnel(first, second, 1 + (first + second) % 9);
            }
        }
        for (int i = 0; i < 8; i++) {
            warren.say(i % 6, (i + 1) % 6, i);
        }
        return warren;
    }

    /**
     * Something of everything. The hares 0 to 3 are in the chambers 0, 2, 0 and 3, no way leads to
     * chamber 3. Message 0 was delivered, 1, 2 and 3 are being drummed, 4 waits. Something was
     * saved, 8 changes can be undone, there are an output and an input of two letters, a text was
     * malformed at 5 and another one failed at its command 1.
     */
    static DrumWarren busy() {
        DrumWarren warren = withHares(inARow(2, 3), 0, 2, 0);
        warren.addChamber();
        warren.addHare(3);
        warren.say(0, 1, 9);
        warren.say(2, 1, 15);
        warren.say(3, 0, 1);
        warren.passTicks(7);
        Check.answer(() -> executeText(warren, "hare x"));
        Check.answer(() -> executeText(warren, "sleep 3;hare 9"));
        warren.writeCode(5);
        warren.save();
        warren.say(1, 0, 3);
        warren.say(2, 0, 7);
        warren.setListening(3, false);
        warren.passTicks(1);
        feedAll(warren, "ch");
        return warren;
    }

    static void feedAll(DrumWarren warren, String text) {
        for (int i = 0; i < text.length(); i++) {
            warren.feed(text.charAt(i));
        }
    }

    static int executeText(DrumWarren warren, String text) {
        feedAll(warren, text);
        return warren.execute();
    }

    static String output(DrumWarren warren) {
        StringBuilder text = new StringBuilder();
        try {
            for (int i = 0; i < 1000; i++) {
                text.append(warren.outputCharacter(i));
            }
        } catch (IndexOutOfBoundsException e) {
            return text.toString();
        }
        return text.toString();
    }

    /** The text of a message as it can be written, or what writeMessage throws. */
    static Object written(DrumWarren warren, int message) {
        Object length = Check.answer(() -> warren.writeMessage(message));
        return length instanceof Integer ? output(warren) : length;
    }

    static String states(DrumWarren warren) {
        StringBuilder text = new StringBuilder();
        for (int i = 0; i < warren.messageCount(); i++) {
            text.append(warren.state(warren.message(i)));
        }
        return text.toString();
    }
}
