/** Promises 40 to 45: statistics and output. */
final class OutputTest {
    private OutputTest() {
    }

    static void run() {
        meanLoudness();
        deliveryFraction();
        writeMessage();
        writeLongIds();
        writeCode();
        outputCharacter();
        isConsistent();
    }

    private static void meanLoudness() {
        DrumWarren none = new DrumWarren();
        Check.due(40, Check.INDEX, () -> none.meanLoudness(0));
        DrumWarren x = Warrens.inARow(2, 6, 9, 4);
        x.addChamber();
        x.addTunnel(5, 0, 9);
        for (int i = 0; i < 6; i++) {
            int to = i;
            float sum = 0.0f;
            for (int from = 0; from < 6; from++) {
                sum += 1.0f / (1.0f + x.shortestDelay(from, to));
            }
            float due = sum / 6.0f;
            Check.due(40, due, () -> x.meanLoudness(to));
        }
        x.removeTunnel(2, 3);
        Check.due(40, (1.0f / 5.0f + 1.0f) / 6.0f, () -> x.meanLoudness(4));
        Check.due(40, Check.INDEX, () -> x.meanLoudness(6));
        Check.due(40, Check.INDEX, () -> x.meanLoudness(-1));
        Check.due(40, 1.0f, () -> Warrens.withChambers(1).meanLoudness(0));
        Check.due(40, 0.125f, () -> Warrens.withChambers(8).meanLoudness(7));
    }

    private static void deliveryFraction() {
        DrumWarren x = Warrens.withHares(Warrens.withChambers(1), 0, 0);
        Check.due(41, Check.ARITHMETIC, x::deliveryFraction);
        x.say(0, 1, 1);
        x.passTicks(4);
        Check.due(41, Check.ARITHMETIC, x::deliveryFraction);
        x.passTicks(1);
        Check.due(41, 1.0, x::deliveryFraction);
        x.setListening(1, false);
        x.say(0, 1, 1);
        x.passTicks(10);
        Check.due(41, 1.0 / 3.0, x::deliveryFraction);
        x.undo();
        Check.due(41, 1.0, x::deliveryFraction);
        DrumWarren lost = Warrens.withHares(Warrens.withChambers(2), 0, 1);
        lost.say(0, 1, 1);
        lost.passTicks(5);
        Check.due(41, 0.0, lost::deliveryFraction);
    }

    private static void writeMessage() {
        DrumWarren x = Warrens.withHares(Warrens.withChambers(2), 0, 0, 1);
        for (int i = 0; i < 4; i++) {
            x.say(0, 1, 1);
            x.forget(i);
        }
        x.say(0, 2, 13);
        Check.due(42, 9, () -> x.writeMessage(4));
        Check.due(42, "4:0>2=13w", () -> Warrens.output(x));
        x.passTicks(10);
        Check.due(42, 11, () -> x.writeMessage(4));
        Check.due(42, "4:0>2=13w!!", () -> Warrens.output(x));
        x.passTicks(1);
        Check.due(42, 11, () -> x.writeMessage(4));
        Check.due(42, "4:0>2=13d!!", () -> Warrens.output(x));
        Check.due(42, Check.ELEMENT, () -> x.writeMessage(3));
        Check.due(42, Check.ELEMENT, () -> x.writeMessage(-1));
        Check.due(42, "4:0>2=13d!!", () -> Warrens.output(x));
        x.passTicks(4);
        x.say(1, 0, 0);
        Check.due(42, 12, () -> x.writeMessage(4));
        Check.due(42, "4:0>2=13l!!!", () -> Warrens.output(x));
        x.passTicks(5);
        Check.due(42, 8, () -> x.writeMessage(5));
        Check.due(42, "5:1>0=0r", () -> Warrens.output(x));
    }

    private static void writeLongIds() {
        DrumWarren x = Warrens.withHares(Warrens.withChambers(1), 0, 0);
        for (int i = 0; i < 123; i++) {
            x.say(0, 1, 1);
            x.forget(i);
        }
        x.say(1, 0, 10);
        Check.due(42, 11, () -> x.writeMessage(123));
        Check.due(42, "123:1>0=10w", () -> Warrens.output(x));
    }

    private static void writeCode() {
        DrumWarren x = new DrumWarren();
        String[] due = {".....", "...xx", "..x.x", "..xx.", ".x..x", ".x.x.", ".xx..", ".xxxx",
            "x...x", "x..x.", "x.x..", "x.xxx", "xx...", "xx.xx", "xxx.x", "xxxx."};
        for (int i = 0; i < 16; i++) {
            int number = i;
            Check.due(43, 5, () -> x.writeCode(number));
            Check.due(43, due[number], () -> Warrens.output(x));
        }
        Check.due(43, Check.ARGUMENT, () -> x.writeCode(16));
        Check.due(43, Check.ARGUMENT, () -> x.writeCode(-1));
        Check.due(43, "xxxx.", () -> Warrens.output(x));
    }

    private static void outputCharacter() {
        DrumWarren x = Warrens.withHares(Warrens.withChambers(1), 0, 0);
        Check.due(44, Check.INDEX, () -> x.outputCharacter(0));
        Check.due(44, Check.INDEX, () -> x.outputCharacter(-1));
        x.writeCode(8);
        Check.due(44, 'x', () -> x.outputCharacter(0));
        Check.due(44, 'x', () -> x.outputCharacter(4));
        Check.due(44, Check.INDEX, () -> x.outputCharacter(5));
        Check.due(44, Check.INDEX, () -> x.outputCharacter(-1));
        x.undo();
        x.save();
        x.restore();
        Check.due(44, "x...x", () -> Warrens.output(x));
        x.addHare(0);
        x.say(0, 1, 1);
        x.writeMessage(0);
        Check.due(44, "0:0>1=1w", () -> Warrens.output(x));
        x.writeCode(0);
        Check.due(44, ".....", () -> Warrens.output(x));
    }

    private static void isConsistent() {
        Check.due(45, true, () -> new DrumWarren().isConsistent());
        DrumWarren x = Warrens.withHares(Warrens.inARow(9, 1, 9, 1, 9, 1, 9), 0, 0, 3, 7, 7, 5);
        x.addTunnel(0, 5, 3);
        x.addTunnel(7, 2, 8);
        Check.due(45, true, x::isConsistent);
        for (int sender = 0; sender < 6; sender++) {
            x.say(sender, (sender + 1) % 6, sender);
        }
        for (int i = 0; i < 12; i++) {
            x.passTicks(3);
            Check.due(45, true, x::isConsistent);
        }
    }
}
