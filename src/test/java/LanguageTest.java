import java.io.ByteArrayInputStream;
import java.io.DataInputStream;
import java.io.IOException;
import java.io.InputStream;
import java.lang.reflect.Constructor;
import java.lang.reflect.Field;
import java.lang.reflect.Method;
import java.lang.reflect.Modifier;
import java.nio.file.Files;
import java.nio.file.Path;
import java.util.ArrayList;
import java.util.Arrays;
import java.util.List;
import java.util.Set;
import java.util.TreeSet;
import java.util.regex.Matcher;
import java.util.regex.Pattern;

/** The rules of ../shared/LANGUAGE.md that a program can look at. */
final class LanguageTest {
    private static final String[] FACE = {
        "int addChamber()", "int addTunnel(int,int,int)", "int removeTunnel(int,int)", "int chamberCount()",
        "int tunnelCount()", "int tunnelDelay(int,int)", "int shortestDelay(int,int)",
        "int shortestDelayBySearch(int,int)", "float loudness(int,int)", "int loudnessBits(int,int)",
        "int addHare(int)", "int move(int,int)", "boolean setListening(int,boolean)", "int hareCount()",
        "int chamberOf(int)", "boolean isListening(int)", "boolean isDrumming(int)", "int received(int)",
        "int latestNumber(int)", "int hareByReceived(int)", "int say(int,int,int)", "int forget(int)",
        "int messageCount()", "int message(int)", "int sender(int)", "int receiver(int)", "char state(int)",
        "int timesLost(int)", "int beatsDrummed(int)", "boolean isThump(int,int)", "int decode(int)",
        "int ticksUntilDelivery(int)", "int passTicks(int)", "int ticks()", "int thumpsHeard(int,int)",
        "int thumpsDrummed()", "int deliveries()", "int losses()", "float meanLoudness(int)",
        "double deliveryFraction()", "int writeMessage(int)", "int writeCode(int)", "char outputCharacter(int)",
        "boolean isConsistent()", "int feed(char)", "int execute()", "int errorPosition()", "int failedCommand()",
        "int undo()", "int undoCount()", "int save()", "int restore()"};

    // Enums need java.lang.Enum, and a switch on one a table that the compiler guards by NoSuchFieldError.
    private static final Set<String> LIBRARY = Set.of(
            "java/lang/Object", "java/lang/Enum", "java/lang/String", "java/lang/StringBuilder", "java/lang/Integer",
            "java/lang/Math", "java/lang/System", "java/lang/NoSuchFieldError",
            "java/lang/IllegalStateException", "java/lang/IllegalArgumentException",
            "java/lang/IndexOutOfBoundsException", "java/lang/ArithmeticException",
            "java/lang/UnsupportedOperationException", "java/util/NoSuchElementException");

    private static final Pattern BANNED = Pattern.compile(
            "->|::|\\b(finally|synchronized|assert|try|catch|var|yield|instanceof|Float|Double|Exact"
            + "|toString|hashCode|package|volatile|native|strictfp)\\b|static \\{|\" \\+|\\+ \"");

    private static final int MAX_LINES = 60;
    private static final int MAX_CLASSES = 12;
    private static final int MAX_FIELDS = 20;
    private static final int MAX_PARAMETERS = 7;

    private LanguageTest() {
    }

    static void run(String program) throws IOException {
        List<String> lines = Files.readAllLines(Path.of(program));
        face();
        classes();
        library();
        words(lines);
        lengths(lines);
    }

    private static void require(boolean holds, String what) {
        if (!holds) {
            Check.wrong("LANGUAGE.md: " + what);
        }
    }

    private static String signature(Method method) {
        List<String> types = new ArrayList<>();
        for (Class<?> type : method.getParameterTypes()) {
            types.add(type.getSimpleName());
        }
        return method.getReturnType().getSimpleName() + " " + method.getName() + "(" + String.join(",", types) + ")";
    }

    private static void face() {
        Set<String> found = new TreeSet<>();
        Set<String> names = new TreeSet<>();
        for (Method method : DrumWarren.class.getDeclaredMethods()) {
            if (Modifier.isPublic(method.getModifiers())) {
                found.add(signature(method));
                names.add(method.getName());
            }
        }
        require(found.equals(new TreeSet<>(Arrays.asList(FACE))), "the public methods are " + found);
        for (Class<?> type : own()) {
            for (Method method : type.getDeclaredMethods()) {
                boolean isFace = type == DrumWarren.class && Modifier.isPublic(method.getModifiers());
                require(isFace || !names.contains(method.getName()), "two methods " + method.getName());
                require(isFace || type != DrumWarren.class || Modifier.isPrivate(method.getModifiers())
                        || method.isSynthetic(), "not private: " + method);
            }
        }
        for (Field field : DrumWarren.class.getDeclaredFields()) {
            require(Modifier.isPrivate(field.getModifiers()), "not private: " + field);
        }
        Constructor<?>[] constructors = DrumWarren.class.getDeclaredConstructors();
        require(constructors.length == 1 && Modifier.isPublic(constructors[0].getModifiers())
                && constructors[0].getParameterCount() == 0, "the constructors");
        require(Modifier.isFinal(DrumWarren.class.getModifiers()), "the class is not final");
    }

    private static List<Class<?>> own() {
        List<Class<?>> types = new ArrayList<>(List.of(DrumWarren.class));
        types.addAll(Arrays.asList(DrumWarren.class.getDeclaredClasses()));
        return types;
    }

    private static void classes() {
        require(own().size() <= MAX_CLASSES, "too many classes");
        for (Class<?> type : own()) {
            int fields = 0;
            for (Field field : type.getDeclaredFields()) {
                boolean isStatic = Modifier.isStatic(field.getModifiers());
                fields += isStatic ? 0 : 1;
                require(!isStatic || Modifier.isFinal(field.getModifiers()), "not final: " + field);
            }
            require(fields <= MAX_FIELDS, "too many fields in " + type);
            require(type == DrumWarren.class || Modifier.isStatic(type.getModifiers()), "not static: " + type);
            for (Method method : type.getDeclaredMethods()) {
                require(method.getParameterCount() <= MAX_PARAMETERS, "too many parameters: " + method);
            }
        }
    }

    private static void library() throws IOException {
        for (Class<?> type : own()) {
            String file = type.getName() + ".class";
            try (InputStream in = LanguageTest.class.getResourceAsStream("/" + file)) {
                for (String used : classesUsedIn(in.readAllBytes())) {
                    String plain = used.replaceAll("^\\[+L?|;$", "");
                    boolean isOwn = plain.equals("DrumWarren") || plain.startsWith("DrumWarren$");
                    boolean isPrimitive = plain.length() == 1;
                    boolean isNestTable = plain.startsWith("java/lang/invoke/MethodHandles");
                    require(isOwn || isPrimitive || isNestTable || LIBRARY.contains(plain),
                            type.getName() + " uses " + used);
                }
            }
        }
    }

    // Reads the constant pool of a class file, as the JVM's specification lays it out.
    private static Set<String> classesUsedIn(byte[] file) throws IOException {
        DataInputStream in = new DataInputStream(new ByteArrayInputStream(file));
        in.skipBytes(8);
        int count = in.readUnsignedShort();
        String[] texts = new String[count];
        List<Integer> classes = new ArrayList<>();
        for (int index = 1; index < count; index++) {
            int tag = in.readUnsignedByte();
            switch (tag) {
                case 1 -> texts[index] = in.readUTF();
                case 7 -> classes.add(in.readUnsignedShort());
                case 8, 16, 19, 20 -> in.skipBytes(2);
                case 15 -> in.skipBytes(3);
                case 5, 6 -> {
                    in.skipBytes(8);
                    index++;
                }
                default -> in.skipBytes(4);
            }
        }
        Set<String> names = new TreeSet<>();
        for (int index : classes) {
            names.add(texts[index]);
        }
        return names;
    }

    private static void words(List<String> lines) {
        for (int i = 0; i < lines.size(); i++) {
            String line = lines.get(i);
            boolean isComment = line.trim().startsWith("//") || line.trim().startsWith("*")
                    || line.trim().startsWith("/*");
            Matcher matcher = BANNED.matcher(line);
            if (!isComment && matcher.find()) {
                require(false, "line " + (i + 1) + " has " + matcher.group());
            }
            for (char sign : line.toCharArray()) {
                require(sign >= 32 && sign < 127, "line " + (i + 1) + " has the sign " + (int) sign);
            }
        }
    }

    private static void lengths(List<String> lines) {
        for (String indent : new String[] {"    ", "        "}) {
            int start = -1;
            for (int i = 0; i < lines.size(); i++) {
                String line = lines.get(i);
                if (line.matches(indent + "\\S.*\\{") && !line.contains("class ") && !line.contains("enum ")) {
                    start = i;
                } else if (line.equals(indent + "}") && start >= 0) {
                    require(i - start < MAX_LINES, "the method of line " + (start + 1) + " is long");
                    start = -1;
                }
            }
        }
    }
}
