import java.util.ArrayList;
import java.util.List;
import java.util.TreeSet;
import java.util.regex.Matcher;
import java.util.regex.Pattern;

/** A text of THE NET, cut into things first and read then. */
final class ModelText {
    private record Thing(int at, String text) { }

    private final List<Thing> things = new ArrayList<>();
    private final Model.World world;
    private final int length;
    private int next;

    ModelText(byte[] bytes, Model.World world) {
        this.world = world;
        this.length = bytes.length;
        String text = new String(bytes, java.nio.charset.StandardCharsets.ISO_8859_1);
        Matcher m = Pattern.compile("[a-z]+|[0-9]+|[^ ]", Pattern.DOTALL).matcher(text);
        while (m.find()) {
            things.add(new Thing(m.start(), m.group()));
        }
        things.add(new Thing(length, ""));
    }

    private static final class Wrong extends RuntimeException {
        private static final long serialVersionUID = 1L;
        private final int at;

        Wrong(int at) {
            this.at = at;
        }
    }

    int read() {
        if (things.size() == 1) {
            return Model.NONE;
        }
        try {
            readLines();
            return Model.NONE;
        } catch (Wrong wrong) {
            return wrong.at;
        }
    }

    private Thing take() {
        return things.get(next++);
    }

    private void readLines() {
        for (int line = 1; ; line++) {
            readLine(line);
            Thing behind = take();
            if (behind.text.isEmpty()) {
                return;
            }
            if (!behind.text.equals(";")) {
                throw new Wrong(behind.at);
            }
        }
    }

    private int number(int least, int most) {
        Thing t = take();
        if (!t.text.matches("[0-9]{1,3}") || Integer.parseInt(t.text) < least || Integer.parseInt(t.text) > most) {
            throw new Wrong(t.at);
        }
        return Integer.parseInt(t.text);
    }

    private int node() {
        return number(0, world.nodes - 1);
    }

    private void readLine(int line) {
        Thing word = take();
        boolean many = line > 14 || word.text.equals("group") && world.groups.size() == 6
            || word.text.equals("at") && world.events.size() == 8
            || word.text.equals("nodes") && (line > 1 || world.nodes > 0);
        if (many) {
            throw new Wrong(word.at);
        }
        switch (word.text) {
            case "nodes" -> world.nodes = number(1, 6);
            case "group" -> readGroup();
            case "delay" -> {
                int from = node();
                int to = node();
                world.chan[from][to].delay = number(1, 9);
            }
            case "jitter" -> world.jitter = number(0, 5);
            case "notice" -> world.notice = number(0, 20);
            case "at" -> readEvent();
            default -> throw new Wrong(word.at);
        }
    }

    private void readGroup() {
        TreeSet<Integer> set = new TreeSet<>();
        set.add(node());
        while (things.get(next).text.matches("[0-9]+")) {
            int at = things.get(next).at;
            if (!set.add(node())) {
                throw new Wrong(at);
            }
        }
        world.groups.add(set);
    }

    private void readEvent() {
        int time = number(world.tick, 999);
        Thing word = take();
        if (word.text.equals("crash")) {
            world.events.add(new Model.Event(time, true, node(), Model.NONE));
        } else if (word.text.equals("send")) {
            int who = node();
            world.events.add(new Model.Event(time, false, who, number(0, world.groups.size() - 1)));
        } else {
            throw new Wrong(word.at);
        }
    }
}
