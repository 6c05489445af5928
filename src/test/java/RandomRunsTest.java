import java.lang.reflect.InvocationTargetException;
import java.lang.reflect.Method;
import java.util.ArrayList;
import java.util.Comparator;
import java.util.List;
import java.util.Random;

/** Holds the class against PlainRelays over long runs of calls drawn by fixed seeds. */
public final class RandomRunsTest {
    private static final Check CHECK = new Check("RandomRunsTest");
    private static final List<Method> CALLS = calls();
    /** Often ticks, so that a mesh mostly settles between what else is done. */
    private static final String[] DEEDS = {"tick", "tick", "tick", "tick", "tick", "run", "will", "will", "will", "echo",
        "echo", "jam", "ear", "turn", "set", "add"};

    /** What would leave nothing to look at, if it came as often as all others. */
    private static final List<String> RARE = List.of("load", "turn", "ear", "set", "back", "run", "add", "jam");

    /** What the document promises of an object. */
    private static final int MOST_CALLS = 512;
    /** At most: load(0), a text of twenty parts with what is asked of it, and a tick. */
    private static final int CALLS_OF_A_STEP = 30;

    private final Random random;
    private final ChosenRelays x = new ChosenRelays();
    private final PlainRelays y = new PlainRelays();
    private final String name;
    private int latest;
    private int calls;

    private RandomRunsTest(int seed) {
        random = new Random(seed);
        name = "seed " + seed + ", call ";
    }

    public static void main(String[] args) throws ReflectiveOperationException {
        int runs = args.length > 0 ? Integer.parseInt(args[0]) : 700;
        for (int seed = 0; seed < runs; seed++) {
            new RandomRunsTest(seed).go();
        }
        CHECK.end();
    }

    private static List<Method> calls() {
        List<Method> calls = new ArrayList<>();
        for (Method method : PlainRelays.class.getDeclaredMethods()) {
            if (java.lang.reflect.Modifier.isPublic(method.getModifiers())) {
                calls.add(method);
            }
        }
        calls.sort(Comparator.comparing(Method::getName));
        return calls;
    }

    private static Method named(String name) {
        for (Method method : CALLS) {
            if (method.getName().equals(name)) {
                return method;
            }
        }
        throw new IllegalStateException(name);
    }

    private void go() throws ReflectiveOperationException {
        for (int i = 0; calls <= MOST_CALLS - CALLS_OF_A_STEP; i++) {
            int dice = random.nextInt(100);
            Method any = CALLS.get(random.nextInt(CALLS.size()));
            boolean rare = RARE.contains(any.getName()) && random.nextInt(12) != 0;
            if (i == 0 || dice < 2) {
                text(i);
                call(i, named("tick"));
            } else if (dice < 25) {
                call(i, named(DEEDS[random.nextInt(DEEDS.length)]));
            } else if (!rare) {
                call(i, any);
            }
        }
    }

    private void call(int i, Method method) throws ReflectiveOperationException {
        Class<?>[] types = method.getParameterTypes();
        Object[] args = new Object[types.length];
        StringBuilder told = new StringBuilder(name).append(i).append(": ").append(method.getName()).append('(');
        for (int k = 0; k < types.length; k++) {
            args[k] = types[k] == boolean.class ? (Object) random.nextBoolean() : (Object) number(method.getName(), k);
            told.append(k > 0 ? ", " : "").append(args[k]);
        }
        calls += 2;
        long got = asLong(ChosenRelays.class.getMethod(method.getName(), types), x, args);
        long want = asLong(method, y, args);
        CHECK.due(told.append(')').toString(), got, want);
        CHECK.due(told + " status", x.status(), y.status());
    }

    private static long asLong(Method method, Object on, Object[] args) throws ReflectiveOperationException {
        try {
            Object got = method.invoke(on, args);
            return got instanceof Boolean ? ((Boolean) got ? 1 : 0) : (Integer) got;
        } catch (InvocationTargetException e) {
            throw new IllegalStateException(method + " threw", e.getCause());
        }
    }

    private int number(String call, int k) {
        if (random.nextInt(60) == 0) {
            int[] odd = {-1, 8, 16, 256, 1000, Integer.MAX_VALUE, Integer.MIN_VALUE, 400, 31};
            return odd[random.nextInt(odd.length)];
        }
        int nodes = Math.max(1, y.nodes());
        switch (call + k) {
            case "load0": return 20 * random.nextInt(3);
            case "tick0": return 1 + random.nextInt(random.nextInt(6) == 0 ? 40 : 8);
            case "run0": return 1 + random.nextInt(random.nextInt(6) == 0 ? 40 : 6);
            case "run1": return random.nextInt(10000);
            case "run2": return random.nextInt(random.nextInt(3) == 0 ? 17 : 6);
            case "jam2": return random.nextInt(6);
            case "set1": return random.nextInt(4) == 0 ? random.nextInt(1000) : random.nextInt(10);
            case "will1": case "add0": return random.nextInt(8);
            case "proves2": return random.nextInt();
            case "proves3": return 1 + random.nextInt(30);
            case "echo2": case "older0": case "older1": return random.nextInt(16);
            case "covers1": case "echo3": return random.nextInt(1 << Math.min(nodes, 8));
            case "many0": return random.nextInt(11);
            case "node1": return random.nextInt(10);
            case "link2": return random.nextInt(6);
            case "flood1": case "notice1": case "set0": return random.nextInt(4);
            case "notice0": return random.nextInt(16);
            case "topology2": case "route2": case "goes2": case "wrong1": case "astray0": case "spine0": case "fault0":
            case "proves4": return random.nextInt(3);
            case "pick1": case "path2": return random.nextInt(4);
            case "feed0": case "feed1": case "feed2": case "feed3": case "feed4": return Meshes.word(part(), 0);
            default: return another(k, nodes);
        }
    }

    /** A node: the second one mostly not the first. */
    private int another(int k, int nodes) {
        int node = random.nextInt(nodes);
        if (k == 1 && node == latest && random.nextInt(8) != 0) {
            node = (node + 1) % nodes;
        }
        latest = node;
        return node;
    }

    private byte[] part() {
        String[] parts = {"node", "s 2;", "air ", "0 1;", " 12;", "off ", "every", "hold", ";;;;"};
        return parts[random.nextInt(parts.length)].getBytes(java.nio.charset.StandardCharsets.ISO_8859_1);
    }

    /** A mesh, mostly without a fault, of pairs by chance. */
    private void text(int i) {
        StringBuilder text = new StringBuilder();
        int nodes = 3 + random.nextInt(6);
        text.append("nodes ").append(nodes).append(';');
        int thick = 15 + random.nextInt(50);
        for (int a = 0; a < nodes; a++) {
            for (int b = a + 1; b < nodes; b++) {
                if (random.nextInt(100) < thick && text.length() < 300) {
                    text.append(random.nextInt(20) == 0 ? "ear " : "air ").append(a).append(' ').append(b).append(";\n");
                }
            }
        }
        while (random.nextInt(3) != 0 && text.length() < 360) {
            text.append("will ").append(random.nextInt(nodes)).append(' ').append(random.nextInt(8)).append(';');
        }
        if (random.nextInt(2) == 0) {
            text.append("every ").append(1 + random.nextInt(4)).append(';');
        }
        if (random.nextInt(2) == 0) {
            text.append("hold ").append(1 + random.nextInt(12)).append(';');
        }
        if (random.nextInt(6) == 0) {
            text.setCharAt(random.nextInt(text.length()), "0179; \nza#".charAt(random.nextInt(10)));
        }
        calls++;
        x.load(0);
        y.load(0);
        load(i, text.toString());
    }

    private void load(int i, String text) {
        byte[] bytes = text.getBytes(java.nio.charset.StandardCharsets.ISO_8859_1);
        for (int at = 0; at < bytes.length; at += 20) {
            int[] words = new int[5];
            for (int k = 0; k < 5; k++) {
                words[k] = Meshes.word(bytes, at + 4 * k);
            }
            calls++;
            CHECK.due(name + i + ": feed", x.feed(words[0], words[1], words[2], words[3], words[4]),
                y.feed(words[0], words[1], words[2], words[3], words[4]));
        }
        calls += 4;
        CHECK.due(name + i + ": load of " + text, x.load(text.length()), y.load(text.length()));
        CHECK.due(name + i + ": status of " + text, x.status(), y.status());
        CHECK.due(name + i + ": fault of " + text, x.fault(0), y.fault(0));
        CHECK.due(name + i + ": place of " + text, x.fault(1), y.fault(1));
    }
}
