import java.lang.reflect.InvocationTargetException;
import java.lang.reflect.Method;
import java.util.ArrayList;
import java.util.List;

/** The same random calls to a DrumWarren and a SlowWarren: every answer has to be the same. */
final class RandomRunsTest {
    private static final int RUNS = 600;
    // Text of at most 60 signs may follow; the document promises nothing after the 512th call.
    private static final int CALLS = 450;
    private static final String[] BUILDING = {"addChamber", "addTunnel", "addTunnel", "addHare"};
    private static final String[] CHANGES = {
        "addTunnel", "removeTunnel", "move", "setListening", "say", "say", "say", "forget",
        "passTicks", "passTicks", "passTicks", "passTicks", "undo", "save", "restore", "execute"};
    private static final String[] TEXTS = {
        "chamber", "tunnel 0-1*3", "tunnel 1-2*1", "tunnel 2-3*9", "hare 0", "hare 1", "say 0>1=9",
        "say 1>0=15", "say 2>1=4", "say 3>0=10", "listen 1", "sleep 1", "go 0@1", "go 1@2", "tick 3", "tick 17"};
    private static final String SIGNS = "chamber tunelsyigok0123456789-*>=@;";

    private final Method[] methods = DrumWarren.class.getDeclaredMethods();
    private final List<Method> queries = new ArrayList<>();
    private final List<String> log = new ArrayList<>();
    private long seed;
    private DrumWarren fast;
    private SlowWarren slow;
    private int calls;

    static void run() {
        RandomRunsTest test = new RandomRunsTest();
        test.findQueries();
        for (int run = 1; run <= RUNS; run++) {
            if (!test.agree(run)) {
                Check.wrong("random run " + run + " differs: " + String.join(" ", test.log));
                return;
            }
        }
        System.out.println(RUNS + " random runs agree");
    }

    // In a fixed order, because reflection promises none.
    private void findQueries() {
        for (Method method : methods) {
            String name = method.getName();
            boolean isChange = List.of(CHANGES).contains(name) || List.of(BUILDING).contains(name);
            if (java.lang.reflect.Modifier.isPublic(method.getModifiers()) && !isChange) {
                queries.add(method);
            }
        }
        queries.sort((a, b) -> a.getName().compareTo(b.getName()));
    }

    private int below(int bound) {
        seed = seed * 6364136223846793005L + 1442695040888963407L;
        return (int) ((seed >>> 33) % bound);
    }

    private boolean agree(int run) {
        seed = run;
        log.clear();
        fast = new DrumWarren();
        slow = new SlowWarren();
        calls = 0;
        int building = 10 + below(25);
        while (calls < CALLS) {
            String name;
            if (calls < building) {
                name = BUILDING[below(BUILDING.length)];
            } else if (below(100) < 45) {
                name = CHANGES[below(CHANGES.length)];
            } else if (below(40) == 0) {
                name = BUILDING[below(BUILDING.length)];
            } else {
                name = queries.get(below(queries.size())).getName();
            }
            if (!sameAnswer(name)) {
                return false;
            }
        }
        return true;
    }

    private boolean sameAnswer(String name) {
        if (name.equals("execute") && below(8) != 0) {
            String text = text();
            for (int i = 0; i < text.length(); i++) {
                if (!sameCall("feed", text.charAt(i))) {
                    return false;
                }
            }
        }
        // Undo and restore would else keep the warrens from growing.
        if (name.equals("restore") && below(3) != 0) {
            return true;
        }
        for (Method method : methods) {
            if (method.getName().equals(name)) {
                return sameCall(name, arguments(method));
            }
        }
        return false;
    }

    private boolean sameCall(String name, Object... arguments) {
        calls++;
        Object due = answer(SlowWarren.class, slow, name, arguments);
        Object got = answer(DrumWarren.class, fast, name, arguments);
        log.add(name + java.util.Arrays.toString(arguments) + "->" + got + "/" + due + "\n");
        return due.equals(got);
    }

    private static Object answer(Class<?> type, Object object, String name, Object[] arguments) {
        for (Method method : type.getDeclaredMethods()) {
            if (method.getName().equals(name)) {
                try {
                    return method.invoke(object, arguments);
                } catch (InvocationTargetException e) {
                    return e.getCause().getClass().getName();
                } catch (IllegalAccessException e) {
                    throw new IllegalStateException(e);
                }
            }
        }
        throw new IllegalStateException(name);
    }

    private Object[] arguments(Method method) {
        Class<?>[] types = method.getParameterTypes();
        Object[] arguments = new Object[types.length];
        for (int i = 0; i < types.length; i++) {
            if (types[i] == boolean.class) {
                arguments[i] = below(3) != 0;
            } else if (types[i] == char.class) {
                arguments[i] = SIGNS.charAt(below(SIGNS.length()));
            } else {
                arguments[i] = number(method.getName(), i);
            }
        }
        return arguments;
    }

    private int number(String name, int index) {
        if (below(150) == 0) {
            return new int[] {Integer.MIN_VALUE, Integer.MAX_VALUE, -1, 100}[below(4)];
        }
        switch (name) {
            case "addTunnel":
                return index == 2 ? 1 + below(9) : below(1 + slow.chamberCount());
            case "say":
                return index == 2 ? below(16) : below(Math.max(1, slow.hareCount()));
            case "decode":
                return below(33);
            case "isThump":
            case "writeCode":
                return index == 0 ? below(17) : below(6);
            case "passTicks":
                return below(12) == 0 ? below(42) : 1 + below(6);
            case "thumpsHeard":
                return index == 0 ? below(1 + slow.chamberCount()) : slow.ticks() - 8 + below(30) + below(6) * below(12);
            case "forget":
            case "sender":
            case "receiver":
            case "state":
            case "timesLost":
            case "beatsDrummed":
            case "writeMessage":
            case "ticksUntilDelivery":
                return slow.messageCount() == 0 || below(10) == 0
                        ? below(9) : slow.message(below(slow.messageCount()));
            case "outputCharacter":
                return below(12);
            case "message":
            case "hareByReceived":
                return below(7);
            case "addHare":
            case "chamberOf":
            case "isListening":
            case "setListening":
            case "isDrumming":
            case "received":
            case "latestNumber":
                return below(Math.max(2, slow.hareCount()));
            default:
                return below(Math.max(2, slow.chamberCount()));
        }
    }

    private String text() {
        StringBuilder text = new StringBuilder(TEXTS[below(TEXTS.length)]);
        int more = below(4);
        for (int i = 0; i < more; i++) {
            text.append(';').append(TEXTS[below(TEXTS.length)]);
        }
        if (below(3) == 0) {
            int place = below(text.length());
            if (below(2) == 0) {
                text.setCharAt(place, SIGNS.charAt(below(SIGNS.length())));
            } else {
                text.setLength(place);
            }
        }
        return text.toString();
    }
}
