import java.util.function.Supplier;

/** The boundary cases of the promises 40 to 45: statistics and output. */
final class OutputEdgesTest extends SentenceTests {
    private OutputEdgesTest() {
    }

    static void run() {
        meanLoudness();
        deliveryFraction();
        writeMessage();
        writeMessageRefused();
        writeCode();
        outputCharacter();
        isConsistent();
    }

    private static DrumWarren together(int hares) {
        return Warrens.withHares(Warrens.withChambers(1), new int[hares]);
    }

    private static void meanLoudness() {
        test(40, "Returns the mean loudness in a chamber of thumps that are drummed in each chamber: the sum over all "
                + "chambers, in the order of their indices, in float arithmetic, divided by their number converted to "
                + "float.", () -> {
                    due(1.0f, () -> Warrens.withChambers(1).meanLoudness(0));
                    due(1.0f / 3.0f, () -> Warrens.withChambers(3).meanLoudness(2));
                    due(0.125f, () -> Warrens.withChambers(8).meanLoudness(0));
                    due(0.75f, () -> Warrens.inARow(1).meanLoudness(1));
                    order();
                });
        test(40, "Throws `IndexOutOfBoundsException` if there is no such chamber", () -> {
            for (int chambers : new int[] {0, 1, 8}) {
                for (int bad : outside(chambers)) {
                    refused(Check.INDEX, () -> Warrens.withChambers(chambers), x -> x.meanLoudness(bad));
                }
            }
        });
    }

    /** The other ways to count, which would answer another float here, are kept from answering the same. */
    private static void order() {
        DrumWarren x = Warrens.inARow(3, 2, 1, 1, 1, 1);
        float due = Float.intBitsToFloat(0x3ED9AFE3);
        float backwards = 0.0f;
        float parts = 0.0f;
        double wide = 0.0;
        for (int i = 0; i < 7; i++) {
            backwards += x.loudness(6 - i, 3);
            parts += x.loudness(i, 3) / 7.0f;
            wide += x.loudness(i, 3);
        }
        boolean tells = due != backwards / 7.0f && due != parts && due != (float) (wide / 7.0);
        due(true, () -> tells);
        due(due, () -> x.meanLoudness(3));
    }

    private static void deliveryFraction() {
        test(41, "Returns the fraction of deliveries: the number of deliveries divided by the sum of deliveries and losses, "
                + "both converted to double.", () -> {
                    DrumWarren x = together(2);
                    x.say(0, 1, 1);
                    x.passTicks(5);
                    due(1.0, x::deliveryFraction);
                    x.say(0, 1, 1);
                    x.setListening(1, false);
                    x.passTicks(5);
                    due(0.5, x::deliveryFraction);
                    x.passTicks(5);
                    due(1.0 / 3.0, x::deliveryFraction);
                    x.passTicks(5);
                    due(0.25, x::deliveryFraction);
                    DrumWarren lost = together(2);
                    lost.setListening(1, false);
                    lost.say(0, 1, 1);
                    lost.passTicks(5);
                    due(0.0, lost::deliveryFraction);
                    lost.setListening(1, true);
                    lost.say(0, 1, 1);
                    lost.passTicks(10);
                    due(2.0 / 3.0, lost::deliveryFraction);
                });
        test(41, "Throws `ArithmeticException` if there were neither deliveries nor losses", () -> {
            refused(Check.ARITHMETIC, DrumWarren::new, DrumWarren::deliveryFraction);
            Supplier<DrumWarren> drumming = () -> {
                DrumWarren x = together(2);
                x.say(0, 1, 1);
                x.passTicks(4);
                return x;
            };
            refused(Check.ARITHMETIC, drumming, DrumWarren::deliveryFraction);
            DrumWarren x = drumming.get();
            x.passTicks(1);
            due(1.0, x::deliveryFraction);
            x.forget(0);
            due(1.0, x::deliveryFraction);
            x.undo();
            x.undo();
            due(Check.ARITHMETIC, x::deliveryFraction);
        });
    }

    private static void writeMessage() {
        test(42, "Writes a message as the output, which replaces the previous one: its id, \":\", its sender, \">\", its "
                + "receiver, \"=\", its number, its state, and a \"!\" for each time it was lost.", () -> {
                    DrumWarren x = together(6);
                    x.say(0, 5, 0);
                    x.say(5, 0, 15);
                    x.say(4, 3, 9);
                    x.say(3, 4, 10);
                    due("0:0>5=0w", () -> Warrens.written(x, 0));
                    due("1:5>0=15w", () -> Warrens.written(x, 1));
                    due("2:4>3=9w", () -> Warrens.written(x, 2));
                    due("3:3>4=10w", () -> Warrens.written(x, 3));
                    x.setListening(5, false);
                    String[] due = {"0:0>5=0w", "0:0>5=0w!", "0:0>5=0w!!", "0:0>5=0l!!!"};
                    for (String written : due) {
                        due(written, () -> Warrens.written(x, 0));
                        x.passTicks(5);
                    }
                    due("1:5>0=15r", () -> Warrens.written(x, 1));
                    x.writeCode(0);
                    due("0:0>5=0l!!!", () -> Warrens.written(x, 0));
                });
        test(42, "Example: \"4:0>2=13w!!\".", () -> {
            DrumWarren x = Warrens.withHares(Warrens.withChambers(2), 0, 0, 1);
            for (int i = 0; i < 4; i++) {
                x.say(0, 1, 1);
                x.forget(i);
            }
            x.say(0, 2, 13);
            x.passTicks(10);
            due(11, () -> x.writeMessage(4));
            due("4:0>2=13w!!", () -> Warrens.output(x));
        });
    }

    private static void writeMessageRefused() {
        test(42, "Returns the length of the output.", () -> {
            DrumWarren x = together(2);
            x.say(0, 1, 9);
            due(8, () -> x.writeMessage(0));
            for (int id = 0; id < 9; id++) {
                x.forget(id);
                x.say(0, 1, 9);
            }
            due(8, () -> x.writeMessage(9));
            x.forget(9);
            x.say(0, 1, 10);
            due(10, () -> x.writeMessage(10));
            due("10:0>1=10w", () -> Warrens.output(x));
            x.setListening(1, false);
            x.passTicks(15);
            due(13, () -> x.writeMessage(10));
            due("10:0>1=10l!!!", () -> Warrens.output(x));
        });
        test(42, "Throws `NoSuchElementException` if there is no such message", () -> {
            refused(Check.ELEMENT, DrumWarren::new, x -> x.writeMessage(0));
            for (int bad : outside(8)) {
                refused(Check.ELEMENT, Warrens::full, x -> x.writeMessage(bad));
                refused(Check.ELEMENT, Warrens::busy, x -> x.writeMessage(bad));
            }
            DrumWarren x = Warrens.full();
            due(8, () -> x.writeMessage(0));
            due(8, () -> x.writeMessage(7));
            x.forget(0);
            due(Check.ELEMENT, () -> x.writeMessage(0));
            due("7:1>2=7w", () -> Warrens.output(x));
        });
    }

    private static void writeCode() {
        test(43, "Writes the code of a number as the output, which replaces the previous one: 5 characters, \"x\" for a "
                + "thump and \".\" for a pause.", () -> {
                    DrumWarren x = together(2);
                    x.say(0, 1, 10);
                    x.writeMessage(0);
                    due(5, () -> x.writeCode(0));
                    due(".....", () -> Warrens.output(x));
                    due(5, () -> x.writeCode(15));
                    due("xxxx.", () -> Warrens.output(x));
                    due(5, () -> x.writeCode(1));
                    due("...xx", () -> Warrens.output(x));
                    due(5, () -> x.writeCode(8));
                    due("x...x", () -> Warrens.output(x));
                });
        test(43, "Returns the length of the output.", () -> {
            DrumWarren x = new DrumWarren();
            for (int i = 0; i < 16; i++) {
                int number = i;
                due(5, () -> x.writeCode(number));
                due(5, () -> Warrens.output(x).length());
            }
        });
        test(43, "Throws `IllegalArgumentException` if number is not from 0 to 15", () -> {
            for (int bad : outside(16)) {
                refused(Check.ARGUMENT, DrumWarren::new, x -> x.writeCode(bad));
                refused(Check.ARGUMENT, Warrens::busy, x -> x.writeCode(bad));
            }
        });
    }

    private static void outputCharacter() {
        test(44, "Returns a character of the output, which is empty at first.", () -> {
            due(Check.INDEX, () -> new DrumWarren().outputCharacter(0));
            DrumWarren x = Warrens.busy();
            due('.', () -> x.outputCharacter(0));
            due('x', () -> x.outputCharacter(1));
            due('.', () -> x.outputCharacter(4));
            x.writeMessage(0);
            due('0', () -> x.outputCharacter(0));
            due('r', () -> x.outputCharacter(7));
        });
        test(44, "Throws `IndexOutOfBoundsException` if there is no such character", () -> {
            for (int bad : outside(0)) {
                refused(Check.INDEX, DrumWarren::new, x -> x.outputCharacter(bad));
            }
            for (int bad : outside(5)) {
                refused(Check.INDEX, Warrens::busy, x -> x.outputCharacter(bad));
            }
            // A shorter output leaves nothing of the longer one behind its end.
            DrumWarren x = Warrens.busy();
            due(9, () -> x.writeMessage(1));
            due('d', () -> x.outputCharacter(8));
            x.writeCode(15);
            due(Check.INDEX, () -> x.outputCharacter(5));
            due(Check.INDEX, () -> x.outputCharacter(8));
        });
    }

    private static void isConsistent() {
        test(45, "Checks by second methods whether the warren is consistent: shortestDelay and shortestDelayBySearch agree "
                + "for all pairs of chambers, decoding the code of each number gives this number, and at most one message is "
                + "being drummed in each chamber.", () -> {
                    DrumWarren x = Warrens.full();
                    for (int i = 0; i < 64; i++) {
                        int from = i / 8;
                        int to = i % 8;
                        due(x.shortestDelay(from, to), () -> x.shortestDelayBySearch(from, to));
                    }
                    for (int i = 0; i < 16; i++) {
                        int number = i;
                        int code = codeOf(x, number);
                        due(number, () -> x.decode(code));
                    }
                    DrumWarren crowded = together(6);
                    for (int i = 0; i < 8; i++) {
                        crowded.say(i % 6, (i + 1) % 6, i);
                    }
                    for (int i = 0; i < 16; i++) {
                        long drummed = Warrens.states(crowded).chars().filter(state -> state == 'd').count();
                        due(true, () -> drummed <= 1);
                        due(true, crowded::isConsistent);
                        crowded.passTicks(1);
                    }
                });
        test(45, "Returns true if it is consistent.", () -> {
            due(true, () -> new DrumWarren().isConsistent());
            due(true, () -> Warrens.withChambers(8).isConsistent());
            due(true, () -> Warrens.busy().isConsistent());
            DrumWarren x = Warrens.full();
            for (int i = 0; i < 20; i++) {
                due(true, x::isConsistent);
                x.passTicks(1);
            }
        });
    }

    private static int codeOf(DrumWarren x, int number) {
        int code = 0;
        for (int beat = 0; beat < 5; beat++) {
            code = 2 * code + (x.isThump(number, beat) ? 1 : 0);
        }
        return code;
    }
}
