import java.lang.reflect.InvocationTargetException;
import java.lang.reflect.Method;
import java.nio.ByteBuffer;
import java.nio.charset.StandardCharsets;
import java.util.ArrayList;
import java.util.Arrays;
import java.util.List;
import java.util.Random;

/** Random runs of calls: the class and the model must answer, or throw, alike. The random source has a fixed seed. */
public final class FuzzTest {
    private static final int RUNS = Integer.getInteger("runs", 1500);
    private static final int CALLS_OF_AN_OBJECT = 512;
    private static final int CALLS_OF_A_TEXT = 25;
    private static final int[] EDGES = {Integer.MIN_VALUE, -2, -1, 20, 60, 61, 120, Integer.MAX_VALUE};
    private static final List<Method> ASKS = new ArrayList<>();
    private static final List<Method> ALL = new ArrayList<>();
    private static int wrong = 0;

    private final Random random;
    private final int run;
    private final LeastPending real = new LeastPending();
    private final Model model = new Model();
    private final List<String> trace = new ArrayList<>();
    private int nodes = 1;
    private int calls = 0;

    private FuzzTest(int run) {
        this.run = run;
        this.random = new Random(run);
    }

    public static void main(String[] args) {
        List<String> changing = List.of("feed", "end", "net", "ticks", "send", "crash", "hold", "seed", "image", "back");
        for (Method m : LeastPending.class.getDeclaredMethods()) {
            boolean isPublic = (m.getModifiers() & java.lang.reflect.Modifier.PUBLIC) != 0;
            if (isPublic && !changing.contains(m.getName())) {
                ASKS.add(m);
            }
            if (isPublic) {
                ALL.add(m);
            }
        }
        ASKS.sort((a, b) -> a.getName().compareTo(b.getName()));
        ALL.sort((a, b) -> a.getName().compareTo(b.getName()));
        for (int run = 1; run <= RUNS && wrong < 10; run++) {
            new FuzzTest(run).go();
            new FuzzTest(-run).goInAnyOrder();
        }
        System.out.println(wrong == 0 ? 2 * RUNS + " runs are alike" : wrong + " runs differ");
        if (wrong != 0) {
            System.exit(1);
        }
    }

    private static Object answer(Object on, String name, Class<?>[] types, Object[] args) {
        try {
            Method m = on.getClass().getDeclaredMethod(name, types);
            m.setAccessible(true);
            return m.invoke(on, args);
        } catch (InvocationTargetException e) {
            return e.getCause().getClass().getName();
        } catch (ReflectiveOperationException e) {
            throw new IllegalStateException(e);
        }
    }

    private Object call(String name, Object... args) {
        Class<?>[] types = new Class<?>[args.length];
        for (int i = 0; i < args.length; i++) {
            types[i] = args[i] instanceof Boolean ? boolean.class : int.class;
        }
        calls++;
        Object got = answer(real, name, types, args);
        Object due = answer(model, name, types, args);
        trace.add(name + Arrays.toString(args) + " = " + got);
        if (got == null ? due != null : !got.equals(due)) {
            wrong++;
            int from = Math.max(0, trace.size() - 60);
            System.out.println("run " + run + " differs, due is " + due + ":\n  " + String.join("\n  ", trace.subList(from, trace.size())));
            throw new Differs();
        }
        return got;
    }

    private static final class Differs extends RuntimeException {
        private static final long serialVersionUID = 1L;
    }

    private void go() {
        try {
            begin();
            // a first text that was wrong by chance left no NODES: once more, now without EVENTS
            if (real.count(0) == 0) {
                tell("nodes " + nodes + ";" + groupLine() + ";" + groupLine());
            }
            // now and then many PACKETS at once
            for (int k = random.nextInt(4) == 0 ? 20 : 0; k > 0; k--) {
                call("send", someNode(), random.nextInt(Math.max(1, real.count(1))));
            }
            int steps = 20 + random.nextInt(90);
            for (int i = 0; i < steps; i++) {
                step();
                for (int k = random.nextInt(6); k > 0; k--) {
                    ask();
                }
            }
            dump();
        } catch (Differs e) {
            // it has been told
        }
    }

    /** So many calls as an object is promised for, of all kinds, in any order and with any numbers. */
    private void goInAnyOrder() {
        try {
            if (random.nextInt(10) != 0) {
                begin();
            }
            while (calls < CALLS_OF_AN_OBJECT) {
                anyCall();
            }
        } catch (Differs e) {
            // it has been told
        }
    }

    private void anyCall() {
        // without more of these hardly anything would be DELIVERED
        if (random.nextInt(5) == 0) {
            boolean sends = random.nextInt(3) == 0;
            call(sends ? "send" : "ticks", sends ? new Object[] {someNode(), random.nextInt(3)} : new Object[] {random.nextInt(5)});
            return;
        }
        Method m = ALL.get(random.nextInt(ALL.size()));
        boolean isRare = List.of("crash", "back").contains(m.getName()) && random.nextInt(4) != 0;
        boolean hasRoom = calls + CALLS_OF_A_TEXT <= CALLS_OF_AN_OBJECT;
        if (hasRoom && (isRare || m.getName().equals("net") && random.nextBoolean())) {
            tellSome();
            return;
        }
        Object[] args = new Object[m.getParameterCount()];
        for (int i = 0; i < args.length; i++) {
            args[i] = m.getParameterTypes()[i] == boolean.class ? (Object) random.nextBoolean() : (Object) anyNumber();
        }
        call(m.getName(), args);
    }

    private int anyNumber() {
        int choice = random.nextInt(40);
        return choice < 30 ? random.nextInt(nodes) : choice < 38 ? random.nextInt(21) : EDGES[random.nextInt(EDGES.length)];
    }

    private void begin() {
        nodes = random.nextInt(3) == 0 ? 6 : 1 + random.nextInt(6);
        StringBuilder text = new StringBuilder("nodes " + nodes);
        for (int g = 1 + random.nextInt(5); g > 0; g--) {
            text.append(';').append(groupLine());
        }
        for (int d = random.nextInt(6); d > 0; d--) {
            text.append(';').append(otherLine());
        }
        tell(text.toString());
    }

    private String groupLine() {
        StringBuilder line = new StringBuilder("group");
        List<Integer> all = new ArrayList<>();
        for (int i = 0; i < nodes; i++) {
            all.add(i);
        }
        java.util.Collections.shuffle(all, random);
        int size = 1 + random.nextInt(nodes);
        for (int i = 0; i < size; i++) {
            line.append(' ').append(all.get(i));
        }
        return line.toString();
    }

    private int someNode() {
        return random.nextInt(nodes);
    }

    private String otherLine() {
        int tick = real.count(4);
        switch (random.nextInt(12)) {
            case 0: return "jitter " + random.nextInt(6);
            case 1: return "notice " + random.nextInt(12);
            case 2: return "notice " + random.nextInt(21);
            case 3: return "at " + (tick + random.nextInt(20)) + " crash " + someNode();
            case 4:
            case 5:
            case 6: return "at " + (tick + random.nextInt(20)) + " send " + someNode() + " " + random.nextInt(3);
            case 7: return groupLine();
            default: return "delay " + someNode() + " " + someNode() + " " + (1 + random.nextInt(9));
        }
    }

    private void tell(String text) {
        byte[] bytes = text.getBytes(StandardCharsets.ISO_8859_1);
        ByteBuffer all = ByteBuffer.allocate((bytes.length + 19) / 20 * 20);
        all.put(bytes).rewind();
        while (all.hasRemaining()) {
            call("feed", all.getInt(), all.getInt(), all.getInt(), all.getInt(), all.getInt());
        }
        call("end", bytes.length);
        trace.add("text: " + text);
        call("net");
        call("fault");
    }

    private void tellSome() {
        StringBuilder text = new StringBuilder();
        for (int lines = random.nextInt(20) == 0 ? 15 : random.nextInt(3); lines >= 0; lines--) {
            text.append(otherLine()).append(lines > 0 ? random.nextBoolean() ? ";" : " ; " : "");
        }
        if (random.nextInt(2) == 0) {
            String signs = " ;0123456789aetn\u00e9\t";
            int at = random.nextInt(text.length() + 1);
            String sign = String.valueOf(signs.charAt(random.nextInt(signs.length())));
            switch (random.nextInt(3)) {
                case 0: text.insert(at, sign); break;
                case 1: text.setLength(at); break;
                default: text.replace(at, Math.min(at + 1, text.length()), sign);
            }
        }
        tell(text.toString());
    }

    private void step() {
        int choice = random.nextInt(100);
        if (choice < 45) {
            call("ticks", random.nextInt(8) == 0 ? random.nextInt(64) - 1 : 1 + random.nextInt(3));
        } else if (choice < 65) {
            call("send", odd(nodes), odd(Math.max(1, real.count(1))));
        } else if (choice < 69) {
            call("crash", odd(nodes));
        } else if (choice < 84) {
            call("hold", odd(nodes), odd(nodes), random.nextInt(3) == 0);
        } else if (choice < 92) {
            tellSome();
        } else if (choice < 93) {
            call("seed", random.nextInt());
        } else if (choice < 95) {
            call("image");
        } else if (choice < 96) {
            call("back");
        } else if (choice < 98) {
            call("feed", random.nextInt(), 1, 2, 3, 4);
            call("end", random.nextInt(50) - 5);
            if (random.nextBoolean()) {
                call("net");
            } else {
                call("end", 0);
            }
        } else {
            dump();
        }
    }

    /** A number below a bound, now and then one outside. */
    private int odd(int bound) {
        return random.nextInt(25) == 0 ? random.nextInt(bound + 6) - 3 : random.nextInt(bound);
    }

    private void ask() {
        Method m = ASKS.get(random.nextInt(ASKS.size()));
        Object[] args = new Object[m.getParameterCount()];
        for (int i = 0; i < args.length; i++) {
            args[i] = random.nextInt(20) == 0 ? random.nextInt(30) - 5 : random.nextInt(6);
        }
        if (List.of("message", "waits", "late", "spared", "outside", "ahead", "first").contains(m.getName())) {
            args[0] = odd(20);
        }
        if (List.of("has", "due", "block", "after", "when", "chain", "gather", "ahead", "first").contains(m.getName())) {
            args[1] = odd(Math.max(1, real.count(3)));
        }
        call(m.getName(), args);
    }

    private void dump() {
        int messages = real.count(3);
        int there = real.count(0);
        for (int what = -1; what < 11; what++) {
            call("count", what);
        }
        for (int a = 0; a < there; a++) {
            for (int what = 0; what < 6; what++) {
                call("node", a, what);
            }
            for (int b = 0; b < there; b++) {
                for (int what = 0; what < 4; what++) {
                    call("channel", a, b, what);
                }
                for (int k = real.channel(a, b, 2) - 1; k >= 0; k--) {
                    for (int what = 0; what < 5; what++) {
                        call("packet", a, b, k, what);
                    }
                }
                if (a != b) {
                    call("parted", a, b);
                }
            }
            for (int m = 0; m < messages; m++) {
                for (int what = 0; what < 4; what++) {
                    call("has", a, m, what);
                    call("gather", a, m, what);
                }
                call("when", a, m);
                call("block", a, m);
                call("chain", a, m, 1);
                call("delivered", a, m);
            }
            call("takes", a);
            call("lag", a);
        }
        for (int m = 0; m < messages; m++) {
            for (int what = 0; what < 5; what++) {
                call("message", m, what);
            }
            call("outside", m);
            call("line", m);
            call("late", m);
            call("waits", m);
        }
        for (int ago = 0; ago <= 60; ago++) {
            for (int what = 0; what < 4; what++) {
                call("log", ago, what);
            }
        }
        call("slowest");
        call("ring");
    }
}
