/**
 * All that can be asked of a warren, as a text, taken with so few calls that also the
 * fullest warren stays under the 512 calls for which an object is promised. Taking it
 * uses the warren up: it is for two warrens that should be alike, one picture each.
 */
final class Picture {
    private static final int THUMPS_ASKED = 80;

    private final DrumWarren x;
    private final StringBuilder text = new StringBuilder();

    private Picture(DrumWarren x) {
        this.x = x;
    }

    static String of(DrumWarren warren) {
        Picture picture = new Picture(warren);
        picture.desk();
        picture.state();
        picture.history();
        picture.input();
        return picture.text.toString();
    }

    /** All but what execute changes even when it throws. */
    static String withoutDesk(DrumWarren warren) {
        Picture picture = new Picture(warren);
        picture.state();
        picture.history();
        return picture.text.toString();
    }

    /** What changes can change. */
    static String ofState(DrumWarren warren) {
        Picture picture = new Picture(warren);
        picture.state();
        return picture.text.toString();
    }

    private void add(String name, Check.Call call) {
        text.append(name).append(' ').append(Check.answer(call)).append(", ");
    }

    private void desk() {
        text.append("output ").append(Warrens.output(x)).append(", ");
        add("error position", x::errorPosition);
        add("failed command", x::failedCommand);
    }

    private void state() {
        counts();
        chambers();
        hares();
        messages();
        nextId();
    }

    private void nextId() {
        Object id = Check.answer(() -> x.say(0, 1, 1));
        text.append("next id ").append(id).append(", ");
        if (id instanceof Integer) {
            x.undo();
        }
    }

    private void counts() {
        add("changes", x::undoCount);
        add("chambers", x::chamberCount);
        add("tunnels", x::tunnelCount);
        add("hares", x::hareCount);
        add("messages", x::messageCount);
        add("ticks", x::ticks);
        add("thumps", x::thumpsDrummed);
        add("deliveries", x::deliveries);
        add("losses", x::losses);
    }

    private void chambers() {
        int chambers = x.chamberCount();
        int ticksAsked = THUMPS_ASKED / Math.max(1, chambers);
        for (int chamber = 0; chamber < chambers; chamber++) {
            int first = chamber;
            for (int other = 0; other < chamber; other++) {
                int second = other;
                add("tunnel", () -> x.tunnelDelay(first, second));
                add("way", () -> x.shortestDelay(first, second));
            }
            for (int number = 0; number < ticksAsked; number++) {
                int tick = x.ticks() - 5 + number;
                add("heard", () -> x.thumpsHeard(first, tick));
            }
        }
    }

    private void hares() {
        for (int number = 0; number < x.hareCount(); number++) {
            int hare = number;
            add("in", () -> x.chamberOf(hare));
            add("listens", () -> x.isListening(hare));
            add("received", () -> x.received(hare));
            add("latest", () -> x.latestNumber(hare));
        }
    }

    private void messages() {
        int messages = x.messageCount();
        for (int position = 0; position < messages; position++) {
            int id = x.message(position);
            add("beats", () -> x.beatsDrummed(id));
            x.writeMessage(id);
            text.append(Warrens.output(x)).append(", ");
        }
    }

    private void history() {
        for (int undone = 0; undone < 8; undone++) {
            add("undo", x::undo);
            add("ticks", x::ticks);
            add("chambers", x::chamberCount);
            add("tunnels", x::tunnelCount);
            add("hares", x::hareCount);
            add("messages", x::messageCount);
        }
        add("saved", x::restore);
        add("ticks", x::ticks);
        add("messages", x::messageCount);
    }

    private void input() {
        add("input", () -> x.feed('?'));
        add("execute", x::execute);
        add("error position", x::errorPosition);
    }
}
