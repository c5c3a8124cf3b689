/** Warrens to begin a test with, and calls that many tests need. */
final class Warrens {
    private Warrens() {
    }

    static DrumWarren withChambers(int chambers) {
        DrumWarren warren = new DrumWarren();
        for (int i = 0; i < chambers; i++) {
            warren.addChamber();
        }
        return warren;
    }

    /** Chambers in a row, each joined to the next one with the delay given. */
    static DrumWarren inARow(int... delays) {
        DrumWarren warren = withChambers(delays.length + 1);
        for (int i = 0; i < delays.length; i++) {
            warren.addTunnel(i, i + 1, delays[i]);
        }
        return warren;
    }

    static DrumWarren withHares(DrumWarren warren, int... chambers) {
        for (int chamber : chambers) {
            warren.addHare(chamber);
        }
        return warren;
    }

    static void feedAll(DrumWarren warren, String text) {
        for (int i = 0; i < text.length(); i++) {
            warren.feed(text.charAt(i));
        }
    }

    static int executeText(DrumWarren warren, String text) {
        feedAll(warren, text);
        return warren.execute();
    }

    static String output(DrumWarren warren) {
        StringBuilder text = new StringBuilder();
        try {
            for (int i = 0; i < 1000; i++) {
                text.append(warren.outputCharacter(i));
            }
        } catch (IndexOutOfBoundsException e) {
            return text.toString();
        }
        return text.toString();
    }

    static String states(DrumWarren warren) {
        StringBuilder text = new StringBuilder();
        for (int i = 0; i < warren.messageCount(); i++) {
            text.append(warren.state(warren.message(i)));
        }
        return text.toString();
    }
}
