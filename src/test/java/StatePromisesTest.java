/** Promises 6 to 13: what a NODE, a GROUP, a MESSAGE, a CHANNEL, a PACKET and a GATHER are told to be. */
public final class StatePromisesTest {
    private static final String NO_INDEX = " ! IndexOutOfBoundsException";
    private static final String NO_WHAT = " ! NoSuchElementException";
    private static final String NO_STATE = " ! IllegalStateException";
    private static final String NET = "right: nodes 3;group 0 1 2;group 1;delay 0 2 3";

    private StatePromisesTest() {
    }

    public static void main(String[] args) {
        Script s = new Script();
        nodes(s);
        groups(s);
        messages(s);
        holdings(s);
        channels(s);
        gathers(s);
        s.finish();
    }

    private static void nodes(Script s) {
        s.run("6 node", NET, "node 0 0 = 1", "node 0 1 = 0", "node 0 2 = 0", "node 0 3 = 0", "node 0 4 = 0", "node 0 5 = 0",
            "node 0 6" + NO_WHAT, "node 0 -1" + NO_WHAT, "node 3 0" + NO_INDEX, "node -1 0" + NO_INDEX, "node 3 9" + NO_INDEX,
            "send 0 0 = 0", "node 0 4 = 3", "ticks 2 = 0", "node 0 1 = 1", "node 0 2 = 1", "node 2 1 = 0", "node 2 2 = 0",
            "node 1 4 = 1", "ticks 3 = 0", "node 0 4 = 7", "ticks 1 = 2", "node 0 2 = 0", "node 0 3 = 1", "node 2 2 = 1",
            "node 2 3 = 0", "ticks 2 = 1", "node 2 3 = 1", "node 2 1 = 1");
        s.run("6 NOTICED", "right: nodes 2;notice 2", "ticks 5", "crash 1", "node 1 0 = 0", "node 0 0 = 1", "node 1 5 = 0",
            "ticks 1", "node 1 5 = 0", "ticks 1", "node 1 5 = 1", "node 0 5 = 0");
        s.run("6 NOTICE is the one told by then", "right: nodes 2;notice 2", "crash 1", "right: notice 5", "ticks 3",
            "node 1 5 = 0", "right: notice 3", "node 1 5 = 1", "right: notice 4", "node 1 5 = 0", "ticks 1", "node 1 5 = 1");
        s.run("6 NOTICE 0", "right: nodes 2;notice 0", "crash 0", "node 0 5 = 1", "node 1 5 = 0");
    }

    private static void groups(Script s) {
        s.run("7 group", NET, "group 0 = 7", "group 1 = 2", "group 2" + NO_INDEX, "group -1" + NO_INDEX);
    }

    private static void messages(Script s) {
        s.run("8 message", NET, "message 0 0" + NO_INDEX, "send 2 1 = 0", "send 0 0 = 1", "message 0 0 = 2", "message 0 1 = 2",
            "message 0 2 = 1", "message 0 3 = 0", "message 0 4 = 4", "message 1 0 = 0", "message 1 1 = 7", "message 1 2 = 3",
            "message 1 4 = 1", "message 0 5" + NO_WHAT, "message 0 -1" + NO_WHAT, "message 2 5" + NO_INDEX,
            "message -1 0" + NO_INDEX, "ticks 4", "message 0 2 = 3", "message 0 3 = 0", "message 0 4 = 0", "ticks 4",
            "message 0 3 = 2", "message 1 3 = 7", "message 1 2 = 9");
    }

    private static void holdings(Script s) {
        s.run("9 has", NET, "send 0 0 = 0", "has 0 0 0 = 0", "has 0 0 1 = -1", "has 0 0 2 = -1", "has 0 0 3 = -1",
            "has 0 0 4" + NO_WHAT, "has 0 0 -1" + NO_WHAT, "has 3 0 0" + NO_INDEX, "has 0 1 4" + NO_INDEX, "has -1 0 0" + NO_INDEX,
            "has 0 -1 0" + NO_INDEX, "ticks 2", "has 1 0 0 = 1", "has 1 0 1 = 1", "has 1 0 2 = 1", "has 1 0 3 = 0",
            "has 2 0 0 = 0", "ticks 4", "has 1 0 0 = 3", "has 1 0 1 = 1", "has 1 0 2 = 2", "has 1 0 3 = 0", "has 2 0 0 = 1",
            "ticks 2", "has 2 0 0 = 3");
        // MESSAGE 1 is FINAL in NODE 1, but MESSAGE 0, that is PROPOSED there with a lesser STAMP, comes first
        s.run("9 has FINAL", "right: nodes 3;group 0 1", "hold 0 2 true", "send 2 0 = 0", "ticks 2", "send 1 0 = 1", "ticks 4",
            "has 1 0 0 = 1", "has 1 1 0 = 2", "has 1 1 1 = 2", "has 1 1 2 = 1", "has 1 1 3 = 1", "those 1 2 = 2");
        s.run("10 delivered", "right: nodes 2;group 0 1;group 1", "send 0 1 = 0", "send 1 0 = 1", "send 0 1 = 2", "delivered 1 0 = -1",
            "ticks 10 = 4", "delivered 1 0 = 0", "delivered 1 1 = 2", "delivered 1 2 = 1", "delivered 1 3 = -1", "delivered 1 -1 = -1",
            "delivered 0 0 = 1", "delivered 0 1 = -1", "delivered 1 20 = -1", "delivered 2 0" + NO_INDEX, "delivered -1 0" + NO_INDEX);
    }

    private static void channels(Script s) {
        s.run("11 channel", NET, "channel 0 2 0 = 3", "channel 2 0 0 = 1", "channel 0 0 0 = 1", "channel 0 2 1 = 0",
            "hold 0 2 true = true", "channel 0 2 1 = 1", "channel 2 0 1 = 0", "channel 0 2 2 = 0", "channel 0 2 3 = 0",
            "channel 0 2 4" + NO_WHAT, "channel 0 2 -1" + NO_WHAT, "channel 3 0 0" + NO_INDEX, "channel 0 3 4" + NO_INDEX,
            "channel -1 0 0" + NO_INDEX, "channel 0 -1 0" + NO_INDEX, "ticks 5", "send 0 0 = 0", "channel 0 2 2 = 1",
            "channel 0 2 3 = 8", "send 0 0 = 1", "channel 0 2 2 = 2", "channel 0 2 3 = 8", "channel 0 1 3 = 6", "channel 1 0 2 = 0");
        s.run("11 LAST at least", "right: nodes 1;group 0;delay 0 0 9", "send 0 0", "channel 0 0 3 = 9", "right: delay 0 0 1",
            "ticks 2", "send 0 0", "channel 0 0 3 = 9", "packet 0 0 1 0 = 9", "ticks 7", "channel 0 0 2 = 2", "ticks 1",
            "channel 0 0 2 = 2", "packet 0 0 0 1 = 1", "packet 0 0 0 0 = 10");
        s.run("12 packet", NET, "send 0 0 = 0", "send 0 1 = 1", "packet 0 1 0 0 = 1", "packet 0 1 0 1 = 0", "packet 0 1 0 2 = 0",
            "packet 0 1 0 3 = -1", "packet 0 1 0 4 = -1", "packet 0 1 1 2 = 1", "packet 0 2 0 0 = 3", "packet 0 1 2 0" + NO_INDEX,
            "packet 0 1 -1 0" + NO_INDEX, "packet 0 1 0 5" + NO_WHAT, "packet 0 1 0 -1" + NO_WHAT, "packet 0 1 2 5" + NO_INDEX,
            "packet 3 1 0 0" + NO_INDEX, "packet 0 3 0 5" + NO_INDEX, "packet -1 0 0 0" + NO_INDEX, "packet 0 -1 0 0" + NO_INDEX,
            "ticks 2", "packet 1 0 0 0 = 2", "packet 1 0 0 1 = 1", "packet 1 0 0 2 = 0", "packet 1 0 0 3 = 1", "packet 1 0 0 4 = 1",
            "packet 1 0 1 2 = 1", "packet 1 0 1 3 = 2", "ticks 1", "packet 0 1 0 1 = 2", "packet 0 1 0 2 = 1",
            "packet 0 1 0 3 = 2", "packet 0 1 0 4 = 1");
        s.run("12 packets of who takes over", "right: nodes 3;group 0 1 2;notice 1", "hold 1 2 true", "send 2 0 = 0", "ticks 2",
            "crash 2", "ticks 2", "log 0 2 = 3", "packet 0 1 0 0 = 4", "packet 0 1 0 1 = 3", "packet 0 1 0 3 = -1", "channel 0 2 2 = 0",
            "ticks 1", "packet 1 0 0 1 = 4", "packet 1 0 0 3 = 1", "packet 1 0 0 4 = 1");
        many(s);
        // JITTER 5: DRAW of SEED 1 is 16838, modulo 6 it is 2, then 5758 (4), then 10113 (3): LAST at least counts too
        s.run("12 JITTER", "right: nodes 1;group 0;jitter 5", "send 0 0", "packet 0 0 0 0 = 3", "send 0 0", "packet 0 0 1 0 = 5",
            "send 0 0", "packet 0 0 2 0 = 5", "channel 0 0 3 = 5", "right: jitter 0", "seed 1 = 662824084", "ticks 5", "send 0 0",
            "seed 1 = 1");
    }

    /** More PACKETS at once than the class has room for at first. */
    private static void many(Script s) {
        String[] rows = new String[43];
        rows[0] = "right: nodes 6;group 0 1 2 3 4 5;delay 0 5 9";
        for (int k = 0; k < 20; k++) {
            rows[1 + k] = "send 0 0 = " + k;
        }
        String[] then = {"count 8 = 120", "packet 0 5 19 2 = 19", "packet 0 5 19 0 = 9", "packet 0 0 0 2 = 0", "due 5 19 = 20", "image", "ticks 2",
            "count 8 = 120", "packet 1 0 7 3 = 8", "packet 0 5 7 2 = 7", "ticks 7", "count 8 = 20", "back = true", "count 8 = 120", "packet 0 5 19 2 = 19",
            "hold 0 5 true", "crash 0", "ticks 3", "count 8 = 20", "packet 0 5 11 2 = 11", "back = true", "ticks 60 = 120"};
        System.arraycopy(then, 0, rows, 21, then.length);
        s.run("12 many packets", rows);
    }

    private static void gathers(Script s) {
        s.run("13 gather", NET, "send 0 0 = 0", "gather 0 0 0 = 0", "gather 0 0 1 = -1", "gather 0 0 2 = -1", "gather 0 0 3 = -1",
            "gather 0 0 4" + NO_WHAT, "gather 0 0 -1" + NO_WHAT, "gather 1 0 0" + NO_STATE, "gather 1 0 4" + NO_STATE,
            "gather 3 0 4" + NO_INDEX, "gather 0 1 4" + NO_INDEX, "gather -1 0 0" + NO_INDEX, "gather 0 -1 0" + NO_INDEX,
            "ticks 3", "gather 0 0 0 = 3", "gather 0 0 1 = 1", "gather 0 0 2 = 1", "gather 0 0 3 = -1", "ticks 1",
            "gather 0 0 0 = 3", "ticks 1", "gather 0 0 0" + NO_STATE);
        // NODE 1 has it DELIVERED with (1, 2), NODE 0 was not told that it is final
        s.run("13 gather of who takes over", "right: nodes 3;group 0 1 2;notice 1;delay 1 0 3", "send 2 0 = 0", "ticks 2",
            "hold 2 0 true", "ticks 1", "has 1 0 0 = 1", "ticks 2", "has 1 0 0 = 3", "has 0 0 0 = 1", "crash 2", "ticks 2",
            "gather 0 0 0 = 0", "gather 0 0 3 = -1", "ticks 2", "gather 0 0 0 = 1", "gather 0 0 1 = 1", "gather 0 0 2 = 0",
            "gather 0 0 3 = -1", "ticks 1", "gather 0 0 0 = 1", "hold 1 0 true", "ticks 4", "gather 0 0 0 = 1", "gather 2 0 0" + NO_STATE,
            "hold 1 0 false", "right: notice 20", "ticks 1", "gather 0 0 0 = 3", "gather 0 0 1 = 1", "gather 0 0 2 = 2", "gather 0 0 3 = 1",
            "waits 0 = 4", "right: notice 0", "ticks 2 = 1", "has 0 0 2 = 2");
    }
}
