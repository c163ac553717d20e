import java.util.ArrayList;
import java.util.List;

/** Rows of calls that ask all there is to ask of an object, and change nothing there. */
final class Asks {
    private final List<String> rows = new ArrayList<>();

    private Asks() {
    }

    static List<String> of(LeastPending x) {
        Asks asks = new Asks();
        int nodes = x.count(0);
        int groups = x.count(1);
        int messages = x.count(3);
        asks.each("count", 10);
        asks.add("fault");
        asks.each("node", nodes, 6);
        asks.each("those", nodes, 4);
        asks.each("delivered", nodes, messages);
        asks.each("channel", nodes, nodes, 4);
        asks.each("group", groups);
        asks.each("event", x.count(7), 4);
        asks.each("message", messages, 5);
        asks.each("has", nodes, messages, 4);
        asks.each("gather", nodes, messages, 4);
        asks.each("log", x.count(9), 4);
        asks.each("when", nodes, messages);
        asks.each("block", nodes, messages);
        asks.each("due", nodes, messages);
        asks.each("after", nodes, messages);
        asks.each("takes", nodes);
        asks.each("line", messages);
        asks.each("late", messages);
        asks.each("outside", messages);
        asks.each("waits", messages);
        asks.each("spared", messages);
        asks.each("ahead", messages, messages);
        asks.each("chain", nodes, messages, 2);
        asks.each("parted", nodes, nodes);
        asks.each("lag", nodes);
        asks.add("slowest");
        asks.add("ring");
        asks.packets(x, nodes);
        return asks.rows;
    }

    private void add(String row) {
        rows.add(row);
    }

    private void each(String name, int... bounds) {
        each(name, bounds, 0);
    }

    private void each(String row, int[] bounds, int k) {
        if (k == bounds.length) {
            add(row);
            return;
        }
        for (int i = 0; i < bounds[k]; i++) {
            each(row + " " + i, bounds, k + 1);
        }
    }

    private void packets(LeastPending x, int nodes) {
        for (int from = 0; from < nodes; from++) {
            for (int to = 0; to < nodes; to++) {
                each("packet " + from + " " + to, x.channel(from, to, 2), 5);
            }
        }
    }
}
