import java.lang.reflect.InvocationTargetException;
import java.lang.reflect.Method;
import java.nio.ByteBuffer;
import java.nio.charset.StandardCharsets;
import java.util.ArrayList;
import java.util.Arrays;
import java.util.List;

/**
 * Runs of calls written as rows, each run on a new object. A row is one of
 * "send 0 1 = 3" (the answer), "send 9 1 ! IndexOutOfBoundsException" (what is thrown), "crash 0" (nothing is looked at),
 * "right: nodes 3" (a text that is right), "wrong: nodes 7 @ 6" (one that is wrong, and the first wrong byte),
 * "tape: nodes 3" (a text that is fed and not read).
 */
final class Script {
    /** An object is promised for 512 calls: so many are asked of one, behind the run. */
    private static final int ASKED_OF_ONE = 250;

    private int rows = 0;
    private int wrong = 0;

    void run(String name, String... lines) {
        told(name, lines);
    }

    /**
     * Behind a run each of the calls answers, or throws, as its row says, and leaves all that can be asked as it was: what is
     * now, THE IMAGE, and the TAPE, which a text uses up.
     */
    void changesNothing(String name, String[] before, String... calls) {
        List<String> asks = Asks.of(told(name, before));
        for (String call : calls) {
            for (List<String> part : parts(asks)) {
                compare(name, before, Script.join(before, call), part, "count 4");
                compare(name, before, Script.join(before, call), part, "back");
            }
            if (usesTape(call)) {
                told(name, join(before, call, "end 1 = false", "end 0 = true"));
            } else {
                compare(name, before, Script.join(before, call), List.of("count 0", "count 1", "count 2", "count 5", "count 6", "fault"), "net");
            }
        }
    }

    /** One who keeps an IMAGE, does what is between and goes back has all as one who did nothing of that; also behind what follows. */
    void comesBack(String name, String[] before, String[] between, String... then) {
        alike(name, join(before, then), join(join(join(join(before, "image"), between), "back = true"), then));
    }

    /** All that can be asked behind two runs is the same, but for these. */
    void alike(String name, String[] one, String[] other, String... but) {
        List<String> asks = Asks.of(told(name, one));
        asks.removeAll(List.of(but));
        for (List<String> part : parts(asks)) {
            compare(name, one, other, part, "count 4");
        }
    }

    private static List<List<String>> parts(List<String> asks) {
        List<List<String>> parts = new ArrayList<>();
        for (int from = 0; from < asks.size(); from += ASKED_OF_ONE) {
            parts.add(asks.subList(from, Math.min(asks.size(), from + ASKED_OF_ONE)));
        }
        return parts;
    }

    static String[] join(String[] one, String... other) {
        String[] all = Arrays.copyOf(one, one.length + other.length);
        System.arraycopy(other, 0, all, one.length, other.length);
        return all;
    }

    /** The same row again and again, each # in it the number of the time. */
    static String[] times(int times, String row) {
        String[] all = new String[times];
        for (int k = 0; k < times; k++) {
            all[k] = row.replace("#", String.valueOf(k));
        }
        return all;
    }

    private void compare(String name, String[] one, String[] other, List<String> part, String first) {
        List<String> asks = new ArrayList<>(part);
        asks.add(0, first);
        asks.add("seed 7");
        LeastPending x = told(name, one);
        LeastPending y = told(name, other);
        String latest = other[other.length - 1];
        for (String ask : asks) {
            rows++;
            String due = String.valueOf(call(x, ask.split(" ")));
            String got = String.valueOf(call(y, ask.split(" ")));
            // fault() is of the latest text, also of a wrong one
            if (!due.equals(got) && !(usesTape(latest) && ask.equals("fault"))) {
                wrong++;
                System.out.println(name + ": behind " + latest + ", " + first + ": " + ask + " is " + got + ", due is " + due);
            }
        }
    }

    private static boolean usesTape(String call) {
        return call.startsWith("wrong: ") || call.startsWith("net");
    }

    private LeastPending told(String name, String[] lines) {
        LeastPending x = new LeastPending();
        for (String line : lines) {
            tell(name, x, line);
        }
        return x;
    }

    private void tell(String name, LeastPending x, String line) {
        rows++;
        String fault = line.startsWith("right: ") ? right(x, line.substring(7))
            : line.startsWith("wrong: ") ? wrong(x, line.substring(7))
            : line.startsWith("tape: ") ? feedText(x, line.substring(6))
            : row(x, line);
        if (fault != null) {
            wrong++;
            System.out.println(name + ": " + line + "   but it was " + fault);
        }
    }

    void finish() {
        System.out.println(rows + " rows, " + wrong + " wrong");
        if (wrong != 0 || rows == 0) {
            System.exit(1);
        }
    }

    private static String feedText(LeastPending x, String text) {
        byte[] bytes = text.getBytes(StandardCharsets.ISO_8859_1);
        ByteBuffer all = ByteBuffer.allocate((bytes.length + 19) / 20 * 20);
        all.put(bytes).rewind();
        x.end(0);
        while (all.hasRemaining()) {
            x.feed(all.getInt(), all.getInt(), all.getInt(), all.getInt(), all.getInt());
        }
        return x.end(bytes.length) ? null : "not fed";
    }

    private static String right(LeastPending x, String text) {
        feedText(x, text);
        int before = x.count(2);
        try {
            int texts = x.net();
            return texts != before + 1 ? "text " + texts : x.fault() != LeastPending.NONE ? "wrong at " + x.fault() : null;
        } catch (IllegalArgumentException e) {
            return "wrong at " + x.fault();
        } catch (UnsupportedOperationException e) {
            return "one too many";
        }
    }

    private static String wrong(LeastPending x, String line) {
        int cut = line.lastIndexOf(" @ ");
        feedText(x, line.substring(0, cut));
        int before = x.count(2);
        try {
            return "right, text " + x.net();
        } catch (IllegalArgumentException e) {
            int due = Integer.parseInt(line.substring(cut + 3));
            return x.fault() != due ? "wrong at " + x.fault() : x.count(2) != before ? "counted" : null;
        } catch (UnsupportedOperationException e) {
            return "one too many";
        }
    }

    private static String row(LeastPending x, String line) {
        String[] sides = line.split(" = | ! ");
        boolean throwing = line.contains(" ! ");
        Object got = call(x, sides[0].split(" "));
        boolean thrown = got instanceof Throwable;
        String text = thrown ? ((Throwable) got).getClass().getSimpleName() : String.valueOf(got);
        boolean fits = throwing == thrown && (sides.length == 1 || sides[1].equals(text));
        return fits ? null : text;
    }

    private static Object call(LeastPending x, String[] words) {
        Class<?>[] types = new Class<?>[words.length - 1];
        Object[] args = new Object[words.length - 1];
        for (int i = 1; i < words.length; i++) {
            boolean isBoolean = words[i].equals("true") || words[i].equals("false");
            types[i - 1] = isBoolean ? boolean.class : int.class;
            args[i - 1] = isBoolean ? (Object) Boolean.valueOf(words[i]) : (Object) Integer.valueOf(words[i]);
        }
        try {
            Method m = LeastPending.class.getMethod(words[0], types);
            return m.invoke(x, args);
        } catch (InvocationTargetException e) {
            return e.getCause();
        } catch (ReflectiveOperationException e) {
            throw new IllegalStateException(e);
        }
    }
}
