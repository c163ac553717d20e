/** Promises 18 to 36: what is asked of the net. */
public final class AskPromisesTest {
    private static final String NO_INDEX = " ! IndexOutOfBoundsException";
    private static final String NO_WHAT = " ! NoSuchElementException";
    private static final String NO_ARGUMENT = " ! IllegalArgumentException";

    private AskPromisesTest() {
    }

    public static void main(String[] args) {
        Script s = new Script();
        due(s);
        block(s);
        waits(s);
        crossed(s);
        after(s);
        chain(s);
        late(s);
        first(s);
        groups(s);
        rest(s);
        s.finish();
    }

    private static void due(Script s) {
        s.run("18 due", "right: nodes 3;group 0 1 2;group 1;delay 0 2 3", "send 0 0 = 0", "due 0 0 = 6", "due 2 0 = 8", "due 3 0" + NO_INDEX,
            "due 0 1" + NO_INDEX, "due -1 0" + NO_INDEX, "due 0 -1" + NO_INDEX, "count 4 = 0", "count 8 = 3", "count 9 = 1", "node 0 4 = 3",
            "ticks 5", "due 0 0 = 1", "due 2 0 = 3", "ticks 1", "due 0 0 = 0", "send 0 1 = 1", "due 0 1 = -1", "due 1 1 = 4");
        // the REQUEST for NODE 1 comes in TICK 5 (1 and DRAW 5758 modulo 6), FINAL in TICK 7; the EVENT is not looked at
        s.run("18 due without EVENTS", "right: nodes 2;group 0 1;jitter 5;notice 0;at 1 crash 1", "send 0 0 = 0", "right: jitter 0",
            "send 0 0 = 1", "due 1 0 = 8", "count 7 = 1", "node 1 0 = 1", "seed 5 = -1770082073");
        // DRAW 16838 modulo 6: the REQUEST comes in TICK 3, and FINAL, without JITTER, in TICK 5
        s.run("18 due without JITTER", "right: nodes 1;group 0;jitter 5", "send 0 0", "due 0 0 = 6", "due 0 0 = 6", "seed 1 = 1103527590");
        s.run("18 due of what is HELD", "right: nodes 2;group 0 1", "hold 1 0 true", "send 0 0", "due 0 0 = -1", "due 1 0 = -1", "crash 1",
            "due 0 0 = 5", "due 1 0 = -1");
        s.run("18 due to 120", "right: nodes 1;group 0", "hold 0 0 true", "send 0 0", "ticks 60", "ticks 60", "due 0 0 = -1", "hold 0 0 false",
            "due 0 0 = 3");
    }

    private static void block(Script s) {
        s.run("19 block", "right: nodes 3;group 0 1;group 1 2", "hold 0 2 true", "send 2 0 = 0", "ticks 2", "block 0 0 = 0", "block 1 0 = 0",
            "block 2 0 = -1", "send 1 1 = 1", "ticks 1", "block 1 1 = -1", "ticks 1", "block 1 1 = 0", "block 2 1 = 1", "ticks 3", "has 1 1 0 = 2",
            "block 1 1 = 0", "block 2 1 = -1", "has 2 1 0 = 3", "block 3 0" + NO_INDEX, "block 0 2" + NO_INDEX, "block -1 0" + NO_INDEX,
            "block 0 -1" + NO_INDEX);
        s.run("19 the least STAMP of several", "right: nodes 2;group 0 1", "hold 1 0 true", "hold 1 1 true", "send 0 0", "send 0 0", "send 0 0",
            "ticks 3", "block 0 2 = 0", "block 0 1 = 0", "block 1 2 = 0");
    }

    private static void waits(Script s) {
        s.run("20 waits", "right: nodes 4;group 0 1 2;notice 3", "waits 0" + NO_INDEX, "hold 1 3 true", "hold 2 3 true", "send 3 0", "waits 0 = 7",
            "ticks 2", "waits 0 = 7", "ticks 1", "waits 0 = 6", "crash 1", "waits 0 = 6", "ticks 3", "waits 0 = 4", "hold 2 3 false", "ticks 1",
            "waits 0 = -1", "waits -1" + NO_INDEX, "waits 1" + NO_INDEX);
        s.run("20 waits of one that is DOWN", "right: nodes 2;group 0 1;notice 3", "hold 0 1 true", "send 1 0", "ticks 2", "crash 1", "waits 0 = -1",
            "message 0 4 = 2", "ticks 3", "waits 0 = -1", "ticks 1", "waits 0 = 1", "gather 0 0 0 = 0");
    }

    /** NODE 0 DELIVERED 0 1 2 4 3, and NODE 1, who knew nothing of that, 3 4. */
    private static final String[] CROSSED = {
        "right: nodes 4;group 0 1;group 0;notice 2;delay 3 0 3;delay 2 1 3", "send 0 1 = 0", "send 0 1 = 1", "send 0 1 = 2", "ticks 4 = 3",
        "send 3 0 = 3", "send 2 0 = 4", "ticks 2", "hold 3 1 true", "ticks 6 = 2", "has 0 3 1 = 5", "has 1 3 0 = 1", "has 1 4 0 = 2",
    };

    private static void crossed(Script s) {
        String[] down = Script.join(CROSSED, "parted 0 1 = 0", "crash 0", "crash 3", "ticks 5 = 0", "ticks 1 = 2");
        s.run("21 ahead", Script.join(CROSSED, "ahead 4 3 = true", "ahead 3 4 = false", "ahead 0 3 = true", "ahead 3 0 = false", "ahead 0 5" + NO_INDEX,
            "ahead 5 5" + NO_INDEX, "ahead -1 0" + NO_INDEX, "ahead 0 0" + NO_ARGUMENT));
        s.run("21 ahead of one another", Script.join(down, "ahead 4 3 = true", "ahead 3 4 = true", "ahead 2 3 = true", "ahead 3 2 = false"));
        s.run("21 ahead by way of another one", "right: nodes 2;group 0;group 0 1;group 1", "send 0 0 = 0", "ticks 4", "send 0 1 = 1", "ticks 4",
            "ahead 0 1 = true", "send 1 2 = 2", "ahead 0 2 = false", "ticks 4", "ahead 1 2 = true", "ahead 0 2 = true", "ahead 2 0 = false");
        // NODE 0 DELIVERED 1 0, NODE 1 DELIVERED 0 2, and nobody both 1 and 2
        s.run("21 ahead by way of the first one", "right: nodes 2;group 0 1;group 0;group 1;delay 1 0 4;delay 0 1 4", "send 1 0 = 0", "send 0 1 = 1",
            "ticks 30", "send 1 2 = 2", "ticks 5", "delivered 0 0 = 1", "delivered 0 1 = 0", "delivered 1 1 = 2", "ahead 1 2 = true", "ahead 2 1 = false",
            "line 0 = 1", "line 1 = 0", "line 2 = 2");
        s.run("22 line", Script.join(CROSSED, "line 0 = 0", "line 1 = 1", "line 2 = 2", "line 3 = 4", "line 4 = 3", "line 5 = -1", "line -1 = -1"));
        s.run("22 line of a round", Script.join(down, "line 0 = 0", "line 2 = 2", "line 3 = 3", "line 4 = 4", "line 5 = -1"));
        s.run("22 line of all", "right: nodes 2;group 0;group 1", "send 0 1 = 0", "send 0 0 = 1", "send 0 1 = 2", "line 0 = -1", "ticks 5",
            "line 0 = 0", "line 1 = 1", "line 2 = 2", "line 3 = -1");
        s.run("25 parted", Script.join(down, "parted 0 1 = 1", "parted 1 0 = 1", "parted 0 2 = 0", "parted 0 0" + NO_ARGUMENT, "parted 4 4" + NO_INDEX,
            "parted 0 4" + NO_INDEX, "parted -1 0" + NO_INDEX));
        s.run("30 first of the least NODE", Script.join(CROSSED, "first 3 4 = 4", "first 4 3 = 4", "first 0 3 = 0", "hold 3 1 false", "first 3 4 = 4"));
        s.run("30 first of one that is DOWN", Script.join(CROSSED, "crash 0", "first 3 4 = 4"));
    }

    private static void after(Script s) {
        // NODE 0 sends and goes DOWN: what is on its way still comes
        s.run("23 after", "right: nodes 3;group 0 1 2;group 1 2", "send 0 0 = 0", "after 0 0 = 6", "after 1 0 = 5", "after 2 0 = 3", "after 3 0" + NO_INDEX,
            "after 0 1" + NO_INDEX, "after -1 0" + NO_INDEX, "after 0 -1" + NO_INDEX, "node 0 0 = 1", "count 9 = 1", "ticks 60 = 3", "after 0 0 = 6",
            "send 0 1 = 1", "after 0 1 = 6", "after 1 1 = 4");
        s.run("23 after a crash nobody has it", "right: nodes 3;group 1 2;delay 0 1 9;delay 0 2 9", "hold 0 1 true", "send 0 0 = 0", "after 0 0 = 0",
            "after 1 0 = 4", "ticks 3", "after 2 0 = 0", "hold 0 1 false", "after 2 0 = 2", "after 0 0 = 6");
        s.run("23 after one that is DOWN", "right: nodes 2;group 0 1;notice 1", "send 0 0", "crash 1", "after 1 0 = 1", "after 0 0 = 0", "ticks 9",
            "after 1 0 = 1", "after 0 0 = 0");
        s.run("24 outside", "right: nodes 4;group 1 2;notice 0", "send 0 0", "outside 0 = 0", "ticks 2", "crash 0", "ticks 9", "outside 0 = 0",
            "message 0 2 = 10", "outside 1" + NO_INDEX, "outside -1" + NO_INDEX);
    }

    private static void chain(Script s) {
        String[] net = {
            "right: nodes 4;group 0 2;group 0 1;group 1 2;delay 3 2 9", "hold 2 1 true", "hold 2 3 true", "send 3 0 = 0", "ticks 3", "hold 0 3 true",
            "send 3 1 = 1", "ticks 2", "send 1 2 = 2", "ticks 5",
        };
        s.run("27 chain", Script.join(net, "waits 1 = 1", "waits 0 = 4", "waits 2 = 4", "chain 1 2 0 = 1", "chain 1 2 1 = 0", "chain 1 2 2 = -1",
            "chain 0 1 0 = 0", "chain 0 1 1 = 2", "chain 0 1 2 = -1", "chain 2 0 0 = 2", "chain 2 0 1 = -1", "chain 1 2 -1 = -1", "chain 1 2 20 = -1",
            "chain 0 0 0 = -1", "chain 3 0 0 = -1", "chain 4 0 0" + NO_INDEX, "chain 0 3 0" + NO_INDEX, "chain -1 0 0" + NO_INDEX,
            "chain 0 -1 0" + NO_INDEX));
        String[] before = {"right: nodes 4;group 0;group 0 1 2;group 2;notice 2", "hold 0 3 true", "hold 1 2 true", "send 3 0 = 0", "ticks 2"};
        // nobody is left whom MESSAGE 1 waits for, or nobody who is UP GATHERS for it: BLOCK in the NODE that is asked, not in NODE 0
        s.run("27 chain with empty WAITS", Script.join(before, "send 2 1 = 1", "ticks 3", "send 2 2 = 2", "ticks 2", "crash 1", "ticks 2", "waits 1 = 0",
            "block 0 1 = 0", "chain 2 2 0 = 1", "chain 2 2 1 = -1"));
        s.run("27 chain without WAITS", Script.join(before, "hold 1 2 false", "send 1 1 = 1", "ticks 2", "send 2 2 = 2", "crash 1", "ticks 2", "waits 1 = -1", "block 0 1 = 0",
            "chain 2 2 0 = 1", "chain 2 2 1 = -1"));
    }

    private static void late(Script s) {
        s.run("26 when", "right: nodes 3;group 0 1 2;delay 0 2 3", "ticks 2", "send 0 0 = 0", "when 0 0 = -1", "ticks 6 = 2", "when 0 0 = 7",
            "when 2 0 = -1", "ticks 2", "when 2 0 = 9", "when 1 0 = 7", "when 3 0" + NO_INDEX, "when 0 1" + NO_INDEX, "when -1 0" + NO_INDEX,
            "when 0 -1" + NO_INDEX);
        s.run("28 late", "right: nodes 3;group 0 1 2;group 1;delay 0 2 3", "late 0" + NO_INDEX, "ticks 2", "send 0 0 = 0", "late 0 = -1", "ticks 6",
            "late 0 = -1", "crash 2", "late 0 = 5", "late 1" + NO_INDEX, "late -1" + NO_INDEX, "send 0 1 = 1", "crash 1", "late 1 = -1", "ticks 5",
            "late 1 = -1", "late 0 = 5");
        s.run("28 late of one that is DOWN then", "right: nodes 3;group 0 1 2;delay 0 2 3", "send 0 0", "ticks 8", "crash 2", "late 0 = 7");
        s.run("29 slowest", "right: nodes 2;group 0;group 1;group 0 1", "send 0 0 = 0", "slowest = -1", "ticks 5", "slowest = 0", "send 0 1 = 1",
            "ticks 5", "slowest = 0", "hold 0 1 true", "send 0 2 = 2", "ticks 5", "slowest = 0", "hold 0 1 false", "ticks 5", "late 2 = 7", "slowest = 2",
            "send 0 2 = 3", "ticks 5", "slowest = 2");
    }

    private static void first(Script s) {
        s.run("30 first", "right: nodes 3;group 0 1;group 1 2;group 0", "send 0 0 = 0", "send 2 1 = 1", "send 0 2 = 2", "first 0 1 = 0", "first 1 0 = 0",
            "first 0 2 = 0", "first 1 2 = -1", "first 0 0" + NO_ARGUMENT, "first 3 3" + NO_INDEX, "first 0 3" + NO_INDEX, "first -1 0" + NO_INDEX,
            "count 4 = 0", "hold 2 1 true", "first 0 1 = -1");
        s.run("31 lag", "right: nodes 3;group 0 1;group 1 2", "lag 0 = 0", "send 0 0", "send 0 1", "lag 0 = 1", "lag 1 = 3", "lag 2 = 2",
            "ticks 4 = 4", "lag 1 = 0", "lag 2 = 0", "send 0 1", "crash 2", "ticks 9", "lag 2 = 4", "lag 1 = 0", "lag 3" + NO_INDEX, "lag -1" + NO_INDEX);
        s.run("32 takes", "right: nodes 3;group 0 1;group 1 2;notice 2", "takes 0 = 0", "send 0 0 = 0", "send 0 1 = 1", "takes 0 = 2", "takes 1 = 0",
            "takes 2 = 0", "takes 3" + NO_INDEX, "takes -1" + NO_INDEX, "count 9 = 2", "ticks 9", "takes 0 = 2", "crash 1", "takes 0 = 1", "crash 0",
            "takes 0 = 1", "takes 2 = 0", "ticks 3", "takes 0 = 0");
    }

    private static void groups(Script s) {
        s.run("33 knot", "right: nodes 4;group 0 1 2;group 3;group 2 1", "knot 0 1 = 0", "knot 0 2 = 6", "knot 2 0 = 6", "knot 1 1" + NO_ARGUMENT,
            "knot 3 3" + NO_INDEX, "knot 0 3" + NO_INDEX, "knot -1 0" + NO_INDEX);
        s.run("34 ring", "ring = -1", "right: nodes 4;group 0 1;group 1 2", "ring = -1", "right: group 1 0 2", "ring = -1", "right: group 2 0", "ring = 11");
        s.run("34 the first three by numbers", "right: nodes 6;group 0 1;group 2 3;group 3 4;group 4 2;group 1 5", "ring = 14", "right: group 5 0",
            "ring = 49");
        s.run("34 no NODE is in all three", "right: nodes 6;group 0 1 2;group 1 3;group 0 4;group 2 5;group 3 4 5;group 0 3", "ring = 35");
    }

    private static void rest(Script s) {
        s.run("35 spared", "right: nodes 3;group 0 1 2;notice 0", "send 0 0", "spared 0 = 6", "ticks 2", "spared 0 = 3", "ticks 1", "spared 0 = 0",
            "ticks 5", "spared 0 = 0", "crash 0", "ticks 4", "spared 0 = -6", "spared 1" + NO_INDEX, "spared -1" + NO_INDEX);
        s.run("36 those", "right: nodes 3;group 0 1", "hold 0 2 true", "send 2 0", "ticks 2", "send 1 0", "ticks 4", "those 0 1 = 1", "those 0 2 = 2",
            "those 0 3 = 0", "hold 0 2 false", "ticks 3", "those 0 1 = 0", "those 0 3 = 3", "those 2 3 = 0", "those 0 0" + NO_WHAT, "those 0 4" + NO_WHAT,
            "those 0 -1" + NO_WHAT, "those 3 4" + NO_INDEX, "those -1 1" + NO_INDEX);
    }
}
