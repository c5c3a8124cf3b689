import java.util.ArrayList;
import java.util.Comparator;
import java.util.HashMap;
import java.util.List;
import java.util.Map;
import java.util.NoSuchElementException;
import java.util.TreeMap;
import java.util.regex.Matcher;
import java.util.regex.Pattern;

/**
 * A second warren after the same document, slow and written with other means than
 * DrumWarren: every thump is kept for ever, every undo is a whole copy, texts are
 * read by regular expressions. Random runs compare the two.
 */
final class SlowWarren {
    private static final String COMMAND = "(?:chamber|tunnel [0-9]-[0-9]\\*[0-9]|hare [0-9]"
            + "|say [0-9]>[0-9]=[0-9][0-9]?|listen [0-9]|sleep [0-9]|go [0-9]@[0-9]|tick [0-9][0-9]?)";
    private static final Pattern TEXT = Pattern.compile(COMMAND + "(?:;" + COMMAND + ")*");

    private static final class Thump {
        final int message;
        final int attempt;
        final Map<Integer, Integer> heard = new HashMap<>();

        Thump(int message, int attempt) {
            this.message = message;
            this.attempt = attempt;
        }
    }

    private static final class Hare {
        int chamber;
        boolean listens = true;
        List<Integer> numbers = new ArrayList<>();

        Hare copy() {
            Hare hare = new Hare();
            hare.chamber = chamber;
            hare.listens = listens;
            hare.numbers = new ArrayList<>(numbers);
            return hare;
        }
    }

    private static final class Message {
        int sender;
        int receiver;
        int number;
        char state = 'w';
        int lost;
        int beats;

        Message copy() {
            Message message = new Message();
            message.sender = sender;
            message.receiver = receiver;
            message.number = number;
            message.state = state;
            message.lost = lost;
            message.beats = beats;
            return message;
        }
    }

    private static final class World {
        int chambers;
        Map<Integer, Integer> tunnels = new HashMap<>();
        List<Hare> hares = new ArrayList<>();
        TreeMap<Integer, Message> messages = new TreeMap<>();
        List<Thump> thumps = new ArrayList<>();
        int nextId;
        int ticks;
        int deliveries;
        int losses;

        World copy() {
            World world = new World();
            world.chambers = chambers;
            world.tunnels = new HashMap<>(tunnels);
            for (Hare hare : hares) {
                world.hares.add(hare.copy());
            }
            messages.forEach((id, message) -> world.messages.put(id, message.copy()));
            world.thumps = new ArrayList<>(thumps);
            world.nextId = nextId;
            world.ticks = ticks;
            world.deliveries = deliveries;
            world.losses = losses;
            return world;
        }
    }

    private World world = new World();
    private World saved;
    private List<World> past = new ArrayList<>();
    private String input = "";
    private String output = "";
    private Integer errorPosition;
    private Integer failedCommand;

    private void changed(World before) {
        past.add(before);
        if (past.size() > 8) {
            past.remove(0);
        }
    }

    private void chamberCheck(int... chambers) {
        for (int chamber : chambers) {
            if (chamber < 0 || chamber >= world.chambers) {
                throw new IndexOutOfBoundsException();
            }
        }
    }

    private void hareCheck(int... hares) {
        for (int hare : hares) {
            if (hare < 0 || hare >= world.hares.size()) {
                throw new IndexOutOfBoundsException();
            }
        }
    }

    private static void require(boolean holds, RuntimeException otherwise) {
        if (!holds) {
            throw otherwise;
        }
    }

    private Message messageOf(int id) {
        require(world.messages.containsKey(id), new NoSuchElementException());
        return world.messages.get(id);
    }

    private static int pair(int first, int second) {
        return 100 * Math.min(first, second) + Math.max(first, second);
    }

    // Null if there is no way.
    private Integer way(int from, int to) {
        Map<Integer, Integer> best = new HashMap<>();
        best.put(from, 0);
        for (int round = 0; round < world.chambers; round++) {
            for (Map.Entry<Integer, Integer> tunnel : world.tunnels.entrySet()) {
                int a = tunnel.getKey() / 100;
                int b = tunnel.getKey() % 100;
                if (best.containsKey(a)) {
                    best.merge(b, best.get(a) + tunnel.getValue(), Math::min);
                }
                if (best.containsKey(b)) {
                    best.merge(a, best.get(b) + tunnel.getValue(), Math::min);
                }
            }
        }
        return best.get(to);
    }

    int addChamber() {
        require(world.chambers < 8, new IllegalStateException());
        changed(world.copy());
        return world.chambers++;
    }

    int addTunnel(int first, int second, int delay) {
        chamberCheck(first, second);
        require(first != second && delay >= 1 && delay <= 9, new IllegalArgumentException());
        require(!world.tunnels.containsKey(pair(first, second)), new IllegalStateException());
        changed(world.copy());
        world.tunnels.put(pair(first, second), delay);
        return world.tunnels.size();
    }

    int removeTunnel(int first, int second) {
        int delay = tunnelDelay(first, second);
        changed(world.copy());
        world.tunnels.remove(pair(first, second));
        return delay;
    }

    int chamberCount() {
        return world.chambers;
    }

    int tunnelCount() {
        return world.tunnels.size();
    }

    int tunnelDelay(int first, int second) {
        chamberCheck(first, second);
        require(world.tunnels.containsKey(pair(first, second)), new NoSuchElementException());
        return world.tunnels.get(pair(first, second));
    }

    int shortestDelay(int from, int to) {
        chamberCheck(from, to);
        Integer way = way(from, to);
        require(way != null, new NoSuchElementException());
        return way;
    }

    int shortestDelayBySearch(int from, int to) {
        return shortestDelay(from, to);
    }

    float loudness(int from, int to) {
        chamberCheck(from, to);
        Integer way = way(from, to);
        if (way == null) {
            return 0.0f;
        }
        return from == to ? 1.0f : 1.0f / (1.0f + (float) (int) way);
    }

    int loudnessBits(int from, int to) {
        return Float.floatToIntBits(loudness(from, to));
    }

    int addHare(int chamber) {
        chamberCheck(chamber);
        require(world.hares.size() < 6, new IllegalStateException());
        changed(world.copy());
        Hare hare = new Hare();
        hare.chamber = chamber;
        world.hares.add(hare);
        return world.hares.size() - 1;
    }

    int move(int hare, int chamber) {
        hareCheck(hare);
        chamberCheck(chamber);
        require(!isDrumming(hare), new IllegalStateException());
        changed(world.copy());
        int before = world.hares.get(hare).chamber;
        world.hares.get(hare).chamber = chamber;
        return before;
    }

    boolean setListening(int hare, boolean listens) {
        hareCheck(hare);
        changed(world.copy());
        boolean before = world.hares.get(hare).listens;
        world.hares.get(hare).listens = listens;
        return before;
    }

    int hareCount() {
        return world.hares.size();
    }

    int chamberOf(int hare) {
        hareCheck(hare);
        return world.hares.get(hare).chamber;
    }

    boolean isListening(int hare) {
        hareCheck(hare);
        return world.hares.get(hare).listens;
    }

    boolean isDrumming(int hare) {
        hareCheck(hare);
        return world.messages.values().stream().anyMatch(m -> m.sender == hare && m.state == 'd');
    }

    int received(int hare) {
        hareCheck(hare);
        return world.hares.get(hare).numbers.size();
    }

    int latestNumber(int hare) {
        hareCheck(hare);
        List<Integer> numbers = world.hares.get(hare).numbers;
        require(!numbers.isEmpty(), new NoSuchElementException());
        return numbers.get(numbers.size() - 1);
    }

    int hareByReceived(int rank) {
        require(rank >= 0 && rank < world.hares.size(), new NoSuchElementException());
        List<Integer> hares = new ArrayList<>();
        for (int hare = 0; hare < world.hares.size(); hare++) {
            hares.add(hare);
        }
        hares.sort(Comparator.comparing((Integer hare) -> -received(hare)));
        return hares.get(rank);
    }

    int say(int sender, int receiver, int number) {
        hareCheck(sender, receiver);
        require(sender != receiver && number >= 0 && number <= 15, new IllegalArgumentException());
        require(world.messages.size() < 8, new IllegalStateException());
        changed(world.copy());
        Message message = new Message();
        message.sender = sender;
        message.receiver = receiver;
        message.number = number;
        world.messages.put(world.nextId, message);
        return world.nextId++;
    }

    int forget(int message) {
        require(messageOf(message).state != 'd', new IllegalStateException());
        changed(world.copy());
        world.messages.remove(message);
        return world.messages.size();
    }

    int messageCount() {
        return world.messages.size();
    }

    int message(int position) {
        List<Integer> ids = new ArrayList<>(world.messages.keySet());
        require(position >= 0 && position < ids.size(), new IndexOutOfBoundsException());
        return ids.get(position);
    }

    int sender(int message) {
        return messageOf(message).sender;
    }

    int receiver(int message) {
        return messageOf(message).receiver;
    }

    char state(int message) {
        return messageOf(message).state;
    }

    int timesLost(int message) {
        return messageOf(message).lost;
    }

    int beatsDrummed(int message) {
        return messageOf(message).beats;
    }

    private static String code(int number) {
        require(number >= 0 && number <= 15, new IllegalArgumentException());
        String digits = Integer.toBinaryString(16 + number).substring(1);
        return digits + digits.chars().filter(c -> c == '1').count() % 2;
    }

    boolean isThump(int number, int beat) {
        String code = code(number);
        require(beat >= 0 && beat < 5, new IndexOutOfBoundsException());
        return code.charAt(beat) == '1';
    }

    int decode(int code) {
        require(code >= 0 && code <= 31, new IllegalArgumentException());
        for (int number = 0; number < 16; number++) {
            if (Integer.parseInt(code(number), 2) == code) {
                return number;
            }
        }
        throw new NoSuchElementException();
    }

    int ticksUntilDelivery(int message) {
        char state = messageOf(message).state;
        require(state == 'w' || state == 'd', new IllegalStateException());
        World before = world;
        world = before.copy();
        int due = 0;
        for (int passed = 1; passed <= 60 && due == 0; passed++) {
            tick();
            if (messageOf(message).state == 'r') {
                due = passed;
            }
        }
        world = before;
        require(due > 0, new UnsupportedOperationException());
        return due;
    }

    private void tick() {
        for (int chamber = 0; chamber < world.chambers; chamber++) {
            Message first = null;
            boolean silent = true;
            for (Message message : world.messages.values()) {
                if (world.hares.get(message.sender).chamber == chamber) {
                    silent &= message.state != 'd';
                    first = first == null && message.state == 'w' ? message : first;
                }
            }
            if (silent && first != null) {
                first.state = 'd';
            }
        }
        world.messages.forEach(this::drum);
        world.messages.forEach(this::decide);
        world.ticks++;
    }

    private void drum(int id, Message message) {
        if (message.state != 'd') {
            return;
        }
        if (isThump(message.number, message.beats)) {
            Thump thump = new Thump(id, message.lost);
            for (int chamber = 0; chamber < world.chambers; chamber++) {
                Integer way = way(world.hares.get(message.sender).chamber, chamber);
                if (way != null) {
                    thump.heard.put(chamber, world.ticks + way);
                }
            }
            world.thumps.add(thump);
        }
        message.beats++;
    }

    private void decide(int id, Message message) {
        if (message.state != 'd' || message.beats < 5) {
            return;
        }
        message.beats = 0;
        Hare receiver = world.hares.get(message.receiver);
        boolean delivered = receiver.listens
                && way(world.hares.get(message.sender).chamber, receiver.chamber) != null;
        for (Thump thump : world.thumps) {
            if (thump.message == id && thump.attempt == message.lost) {
                delivered &= isHeardAlone(thump, receiver.chamber);
            }
        }
        if (delivered) {
            message.state = 'r';
            receiver.numbers.add(message.number);
            world.deliveries++;
        } else {
            message.lost++;
            message.state = message.lost == 3 ? 'l' : 'w';
            world.losses++;
        }
    }

    private boolean isHeardAlone(Thump thump, int chamber) {
        Integer tick = thump.heard.get(chamber);
        for (Thump other : world.thumps) {
            if (other != thump && tick != null && tick.equals(other.heard.get(chamber))) {
                return false;
            }
        }
        return tick != null;
    }

    int passTicks(int ticks) {
        require(ticks >= 1 && ticks <= 40, new IllegalArgumentException());
        changed(world.copy());
        int before = world.deliveries;
        for (int passed = 0; passed < ticks; passed++) {
            tick();
        }
        return world.deliveries - before;
    }

    int ticks() {
        return world.ticks;
    }

    int thumpsHeard(int chamber, int tick) {
        chamberCheck(chamber);
        require(tick >= world.ticks - 20 && tick <= world.ticks + 80, new IllegalArgumentException());
        int heard = 0;
        for (Thump thump : world.thumps) {
            heard += thump.heard.getOrDefault(chamber, -1000) == tick ? 1 : 0;
        }
        return heard;
    }

    int thumpsDrummed() {
        return world.thumps.size();
    }

    int deliveries() {
        return world.deliveries;
    }

    int losses() {
        return world.losses;
    }

    float meanLoudness(int to) {
        chamberCheck(to);
        float sum = 0.0f;
        for (int from = 0; from < world.chambers; from++) {
            sum += loudness(from, to);
        }
        return sum / (float) world.chambers;
    }

    double deliveryFraction() {
        require(world.deliveries + world.losses > 0, new ArithmeticException());
        return (double) world.deliveries / (double) (world.deliveries + world.losses);
    }

    int writeMessage(int message) {
        Message m = messageOf(message);
        output = message + ":" + m.sender + ">" + m.receiver + "=" + m.number + m.state + "!".repeat(m.lost);
        return output.length();
    }

    int writeCode(int number) {
        output = code(number).replace('1', 'x').replace('0', '.');
        return output.length();
    }

    char outputCharacter(int index) {
        require(index >= 0 && index < output.length(), new IndexOutOfBoundsException());
        return output.charAt(index);
    }

    boolean isConsistent() {
        return true;
    }

    int feed(char character) {
        require(input.length() < 60, new IllegalStateException());
        input += character;
        return input.length();
    }

    int execute() {
        String text = input;
        input = "";
        if (!TEXT.matcher(text).matches()) {
            errorPosition = longestBeginning(text);
            throw new IllegalArgumentException();
        }
        World before = world.copy();
        List<World> pastBefore = new ArrayList<>(past);
        String[] commands = text.split(";");
        for (int index = 0; index < commands.length; index++) {
            try {
                perform(commands[index]);
            } catch (RuntimeException e) {
                world = before;
                past = pastBefore;
                failedCommand = index;
                throw new UnsupportedOperationException();
            }
        }
        past = pastBefore;
        changed(before);
        return commands.length;
    }

    private static int longestBeginning(String text) {
        for (int length = text.length(); length > 0; length--) {
            Matcher matcher = TEXT.matcher(text.substring(0, length));
            if (matcher.matches() || matcher.hitEnd()) {
                return length;
            }
        }
        return 0;
    }

    private void perform(String command) {
        String[] words = command.split("[ \\-*>=@]");
        int[] n = new int[4];
        for (int i = 1; i < words.length; i++) {
            n[i] = Integer.parseInt(words[i]);
        }
        switch (words[0]) {
            case "chamber" -> addChamber();
            case "tunnel" -> addTunnel(n[1], n[2], n[3]);
            case "hare" -> addHare(n[1]);
            case "say" -> say(n[1], n[2], n[3]);
            case "listen" -> setListening(n[1], true);
            case "sleep" -> setListening(n[1], false);
            case "go" -> move(n[1], n[2]);
            default -> passTicks(n[1]);
        }
    }

    int errorPosition() {
        require(errorPosition != null, new NoSuchElementException());
        return errorPosition;
    }

    int failedCommand() {
        require(failedCommand != null, new NoSuchElementException());
        return failedCommand;
    }

    int undo() {
        require(!past.isEmpty(), new IllegalStateException());
        world = past.remove(past.size() - 1);
        return past.size();
    }

    int undoCount() {
        return past.size();
    }

    int save() {
        saved = world.copy();
        return world.hares.size();
    }

    int restore() {
        require(saved != null, new IllegalStateException());
        world = saved.copy();
        past.clear();
        return world.hares.size();
    }
}
