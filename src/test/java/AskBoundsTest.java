/** The bounds that the part marked ==== 3 names: AHEAD, each 'none', each 'of several the first', and THE IMAGE. */
public final class AskBoundsTest {
    private static final String NO_STATE = " ! IllegalStateException";

    private AskBoundsTest() {
    }

    public static void main(String[] args) {
        Script s = new Script();
        ahead(s);
        due(s);
        block(s);
        waits(s);
        aheadOfAndLine(s);
        after(s);
        parted(s);
        chain(s);
        late(s);
        first(s);
        lagAndTakes(s);
        groups(s);
        spared(s);
        image(s);
        s.finish();
    }

    private static void ahead(Script s) {
        String[] before = {"right: nodes 4;group 0 1 2;group 1 3;delay 0 1 3;jitter 3;notice 2;at 6 crash 2;at 7 send 3 1", "hold 3 1 true", "send 0 0", "send 3 1", "ticks 2", "image",
            "send 1 0", "crash 0", "ticks 2", "send 2 1", "tape: notice 9"};
        s.changesNothing("AHEAD: nothing stays", before, "due 1 0", "due 2 3", "after 0 0", "after 1 0", "after 3 2", "first 0 1", "first 2 0", "takes 0", "takes 1", "takes 3");
        s.changesNothing("what is asked changes nothing", before, "block 1 0", "waits 0", "ahead 0 1", "line 0", "outside 0", "parted 0 1", "chain 1 0 0", "late 0", "slowest", "lag 1", "knot 0 1", "ring",
            "spared 0", "those 1 1", "event 0 0", "log 0 0", "count 8", "fault", "node 0 0", "group 0", "message 0 0", "has 0 0 0", "delivered 0 0", "channel 0 1 0", "when 0 0");
        s.run("AHEAD without (a): an EVENT of this TICK", "right: nodes 2;group 0 1;notice 0;at 0 crash 1", "send 0 0", "due 1 0 = 4", "after 0 0 = 2", "takes 0 = 1", "ticks 9 = 1", "has 1 0 0 = 0");
        s.run("AHEAD without (a): an EVENT of a later TICK", "right: nodes 2;group 0 1;notice 0;at 2 crash 0", "send 0 0", "due 0 0 = 4", "due 1 0 = 4", "ticks 3 = 0", "due 0 0 = -1");
        // DRAW behind the modulo is 2: the REQUEST comes in TICK 3, what follows without JITTER
        s.run("AHEAD without JITTER from now", "right: nodes 1;group 0;jitter 5", "send 0 0", "packet 0 0 0 0 = 3", "due 0 0 = 6", "seed 1 = 1103527590", "seed 3", "due 0 0 = 6", "count 5 = 5");
    }

    private static void due(Script s) {
        s.run("DUE 0: it is already", "right: nodes 1;group 0", "send 0 0", "ticks 4 = 1", "due 0 0 = 0", "ticks 60", "due 0 0 = 0");
        s.run("DUE 0 of one that is DOWN since", "right: nodes 1;group 0", "send 0 0", "ticks 4 = 1", "crash 0", "due 0 0 = 0");
        s.run("DUE 1: in the next TICK", "right: nodes 1;group 0", "send 0 0", "due 0 0 = 4", "ticks 3", "due 0 0 = 1");
        s.run("DUE none: it is not addressed", "right: nodes 2;group 0", "send 1 0", "due 1 0 = -1", "due 0 0 = 4");
        s.run("DUE none: it is DOWN", "right: nodes 2;group 0 1", "send 1 0", "ticks 3", "crash 0", "due 0 0 = -1", "due 1 0 = 1");
        s.run("DUE none: what it needs is HELD", "right: nodes 1;group 0", "hold 0 0 true", "send 0 0", "due 0 0 = -1", "hold 0 0 false", "due 0 0 = 4");
        // the longest there is: NOTICE 20, then TAKE, STATE and FINAL with DELAY 9 each; 120 is never come to
        s.run("DUE to 120: the longest way", "right: nodes 3;group 0 1;notice 20;delay 0 0 9;delay 0 1 9;delay 1 0 9;delay 1 1 9;delay 2 0 9;delay 2 1 9;delay 0 2 9;delay 1 2 9", "send 2 0", "ticks 10",
            "has 0 0 0 = 1", "has 1 0 0 = 1", "crash 2", "due 0 0 = 48", "due 1 0 = 48", "after 2 0 = 3", "takes 2 = 1", "ticks 47 = 0", "due 0 0 = 1", "ticks 1 = 2", "due 0 0 = 0");
        s.run("DUE to 120: it would wait for good", "right: nodes 2;group 0 1", "hold 1 0 true", "send 0 0", "ticks 60", "ticks 60", "ticks 60", "due 0 0 = -1", "hold 1 0 false", "due 0 0 = 2");
    }

    private static void block(Script s) {
        s.run("BLOCK none: with nothing", "right: nodes 2;group 0", "send 0 0", "block 0 0 = -1", "block 1 0 = -1");
        s.run("BLOCK: itself", "right: nodes 2;group 0", "send 0 0", "ticks 2", "block 0 0 = 0", "block 1 0 = -1");
        s.run("BLOCK none: DELIVERED", "right: nodes 1;group 0", "send 0 0", "ticks 3", "block 0 0 = 0", "ticks 1", "block 0 0 = -1");
        s.run("BLOCK: a lesser STAMP, though it is a greater MESSAGE", "right: nodes 2;group 0", "hold 1 0 true", "hold 0 0 true", "send 1 0 = 0", "send 0 0 = 1", "hold 0 0 false", "ticks 2", "hold 0 0 true",
            "hold 1 0 false", "ticks 1", "has 0 1 1 = 1", "has 0 0 1 = 2", "block 0 0 = 1", "block 0 1 = 1");
        s.run("BLOCK: of several the least STAMP", "right: nodes 1;group 0", "send 0 0", "send 0 0", "send 0 0", "ticks 2", "block 0 2 = 0", "block 0 1 = 0", "block 0 0 = 0");
        s.run("BLOCK of one that is FINAL", "right: nodes 2;group 0 1;group 0", "hold 1 0 true", "send 0 0 = 0", "send 0 1 = 1", "ticks 4 = 0", "has 0 1 0 = 2", "block 0 1 = 0", "block 0 0 = 0", "block 1 0 = 0");
    }

    private static void waits(Script s) {
        s.run("WAITS of all", "right: nodes 6;group 0 1 2 3 4 5", "send 0 0", "waits 0 = 63", "ticks 2", "waits 0 = 63", "ticks 1", "waits 0 = -1");
        s.run("WAITS none: nobody GATHERS", "right: nodes 1;group 0", "send 0 0", "waits 0 = 1", "ticks 3", "message 0 4 = 0", "waits 0 = -1");
        s.run("WAITS none: nobody who is UP does", "right: nodes 2;group 1", "send 0 0", "waits 0 = 2", "crash 0", "message 0 4 = 1", "waits 0 = -1");
        s.run("WAITS of nobody is not none", "right: nodes 2;group 1;notice 0", "crash 1", "send 0 0", "message 0 4 = 1", "waits 0 = 0", "ticks 1", "waits 0 = -1");
        s.run("WAITS: not NOTICED", "right: nodes 3;group 1 2;notice 1", "send 0 0", "crash 1", "waits 0 = 6", "ticks 1", "waits 0 = 4");
        // NODE 0 took over and went DOWN, then NODE 1 took over: of the three that GATHER only NODE 1 is UP
        s.run("WAITS of each that is UP", "right: nodes 3;group 0 1;notice 0", "send 2 0", "ticks 2", "crash 2", "ticks 1", "message 0 4 = 5", "waits 0 = 3", "crash 0", "waits 0 = -1", "ticks 1", "message 0 4 = 7",
            "waits 0 = 2");
    }

    /** NODE 0 DELIVERED 0 1 2 4 5 3, and NODE 1, who knew nothing of that, 3 4 5. */
    private static final String[] CROSSED = {
        "right: nodes 4;group 0 1;group 0;notice 2;delay 3 0 3;delay 2 1 3", "send 0 1 = 0", "send 0 1 = 1", "send 0 1 = 2", "ticks 4 = 3", "send 3 0 = 3", "send 2 0 = 4", "send 2 0 = 5", "ticks 2",
        "hold 3 1 true", "ticks 6 = 3", "crash 0", "crash 3", "ticks 5 = 0", "ticks 1 = 3", "delivered 0 3 = 4", "delivered 0 4 = 5", "delivered 0 5 = 3", "delivered 1 0 = 3", "delivered 1 1 = 4", "delivered 1 2 = 5",
    };

    private static void aheadOfAndLine(Script s) {
        s.run("AHEAD OF: nobody DELIVERED them", "right: nodes 1;group 0", "send 0 0", "send 0 0", "ahead 0 1 = false", "ahead 1 0 = false", "ticks 4 = 2", "ahead 0 1 = true", "ahead 1 0 = false");
        s.run("AHEAD OF: nobody DELIVERED both", "right: nodes 2;group 0;group 1", "send 0 0", "send 0 1", "ticks 9", "ahead 0 1 = false", "ahead 1 0 = false");
        s.run("AHEAD OF one that is ahead of it", "right: nodes 3;group 0;group 0 1;group 1 2;group 2", "send 0 0", "ticks 4", "send 0 1", "ticks 4", "send 1 2", "ticks 4", "send 2 3", "ticks 4 = 1", "ahead 0 1 = true",
            "ahead 0 2 = true", "ahead 0 3 = true", "ahead 3 0 = false", "ahead 2 0 = false");
        s.run("AHEAD OF one another", Script.join(CROSSED, "ahead 3 4 = true", "ahead 4 3 = true", "ahead 4 5 = true", "ahead 5 4 = true", "ahead 2 3 = true", "ahead 3 2 = false"));
        s.run("AHEAD OF by way of the first one", "right: nodes 2;group 0 1;group 0;group 1;delay 1 0 4;delay 0 1 4", "send 1 0 = 0", "send 0 1 = 1", "ticks 30 = 3", "send 1 2 = 2", "ticks 5 = 1", "delivered 0 0 = 1",
            "delivered 0 1 = 0", "delivered 1 0 = 0", "delivered 1 1 = 2", "ahead 1 2 = true", "ahead 2 1 = false");
        s.run("LINE: none", "line 0 = -1", "right: nodes 1;group 0", "send 0 0", "line 0 = -1", "ticks 4", "line 0 = 0", "line 1 = -1", "line -1 = -1");
        s.run("LINE: of those that none is ahead of the least number", "right: nodes 3;group 2;group 1;group 0", "send 0 0 = 0", "send 0 1 = 1", "send 0 2 = 2", "hold 0 2 true", "ticks 9 = 2", "line 0 = 1", "line 1 = 2",
            "line 2 = -1", "hold 0 2 false", "ticks 9 = 1", "line 0 = 0", "line 1 = 1", "line 2 = 2", "line 3 = -1");
        s.run("LINE: one that is ahead comes first", "right: nodes 2;group 0 1;group 0;delay 1 0 4;delay 0 1 4", "send 1 0 = 0", "send 0 1 = 1", "ticks 30 = 3", "delivered 0 0 = 1", "delivered 0 1 = 0",
            "line 0 = 1", "line 1 = 0", "line 2 = -1");
        s.run("LINE: the least number, if there is none such", Script.join(CROSSED, "line 0 = 0", "line 1 = 1", "line 2 = 2", "line 3 = 3", "line 4 = 4", "line 5 = 5", "line 6 = -1"));
        // NODE 0 DELIVERED 3 4 5 1 2 0, NODE 1 0 1 2
        s.run("LINE: the least number of all, if there is none such", "right: nodes 4;group 0 1;group 0;notice 2;delay 3 0 4;delay 2 0 2;delay 2 1 4", "send 3 0 = 0", "send 2 0 = 1", "send 2 0 = 2", "send 0 1 = 3", "send 0 1 = 4",
            "send 0 1 = 5", "ticks 2", "hold 3 1 true", "ticks 8 = 6", "line 0 = 3", "line 3 = 1", "line 4 = 2", "line 5 = 0", "crash 0", "crash 3", "ticks 5 = 0", "ticks 1 = 3", "delivered 0 3 = 1", "delivered 0 5 = 0",
            "delivered 1 0 = 0", "delivered 1 2 = 2", "line 0 = 3", "line 1 = 4", "line 2 = 5", "line 3 = 0", "line 4 = 1", "line 5 = 2", "line 6 = -1", "parted 0 1 = 2");
        s.run("LINE of 20", Script.join(Script.join(new String[] {"right: nodes 1;group 0"}, Script.times(20, "send 0 0")), Script.join(new String[] {"ticks 4 = 20"}, Script.join(Script.times(20, "line # = #"),
            "line 20 = -1", "line 21 = -1"))));
    }

    private static void after(Script s) {
        s.run("CRASH of one that is UP", "right: nodes 3;group 0 1 2", "send 0 0", "after 2 0 = 3", "after 0 0 = 6", "node 2 0 = 1");
        s.run("CRASH of one that is DOWN", "right: nodes 3;group 0 1 2", "send 0 0", "crash 2", "after 2 0 = 3", "after 1 0 = 1");
        s.run("CRASH: those that are UP then alone", "right: nodes 2;group 0 1", "send 0 0", "ticks 9 = 2", "after 0 0 = 2", "after 1 0 = 1", "crash 0", "after 0 0 = 2", "after 1 0 = 0");
        s.run("CRASH: nobody", "right: nodes 1;group 0", "send 0 0", "after 0 0 = 0");
        s.run("CRASH from now on", "right: nodes 3;group 1 2;delay 0 1 9;delay 0 2 9;notice 20", "send 0 0", "after 0 0 = 6", "ticks 5", "after 0 0 = 6", "hold 0 1 true", "after 0 0 = 0");
        s.run("OUTSIDE: nobody", "right: nodes 4;group 1 2;notice 0", "send 0 0", "outside 0 = 0", "ticks 2", "crash 0", "ticks 60", "outside 0 = 0", "crash 1", "ticks 60", "outside 0 = 0", "message 0 2 = 13");
    }

    private static void parted(Script s) {
        s.run("PARTED 0: nothing is DELIVERED", "right: nodes 2;group 0 1", "parted 0 1 = 0", "send 0 0", "send 0 0", "parted 0 1 = 0");
        s.run("PARTED 0: one order", "right: nodes 2;group 0 1", "send 0 0", "send 1 0", "ticks 9 = 4", "parted 0 1 = 0", "parted 1 0 = 0");
        s.run("PARTED of both alone", "right: nodes 2;group 0;group 1", "send 0 0", "send 0 1", "ticks 9 = 2", "parted 0 1 = 0");
        s.run("PARTED: how many pairs", Script.join(CROSSED, "parted 0 1 = 2", "parted 1 0 = 2", "parted 0 2 = 0", "parted 2 3 = 0"));
    }

    private static void chain(Script s) {
        s.run("CHAIN: none, it is not there", "right: nodes 2;group 0", "send 0 0", "chain 0 0 0 = -1", "chain 1 0 0 = -1", "ticks 9", "chain 0 0 0 = -1");
        s.run("CHAIN: not itself", "right: nodes 1;group 0", "send 0 0", "ticks 2", "block 0 0 = 0", "chain 0 0 0 = -1");
        s.run("CHAIN of one", "right: nodes 1;group 0", "send 0 0", "send 0 0", "ticks 2", "block 0 1 = 0", "chain 0 1 0 = 0", "chain 0 1 1 = -1", "chain 0 1 -1 = -1");
        String[] round = {"right: nodes 4;group 0 2;group 0 1;group 1 2;delay 3 2 9", "hold 2 1 true", "hold 2 3 true", "send 3 0 = 0", "ticks 3", "hold 0 3 true", "send 3 1 = 1", "ticks 2", "send 1 2 = 2", "ticks 5"};
        s.run("CHAIN: while it was not there yet", Script.join(round, "chain 0 1 0 = 0", "chain 0 1 1 = 2", "chain 0 1 2 = -1", "chain 0 1 3 = -1", "chain 1 2 0 = 1", "chain 1 2 1 = 0", "chain 1 2 2 = -1"));
    }

    private static void late(Script s) {
        s.run("LATE none: nobody has it", "right: nodes 2;group 0", "send 1 0", "late 0 = -1", "ticks 3", "late 0 = -1", "ticks 1", "late 0 = 3");
        s.run("LATE none: some NODE of TO that is UP has not", "right: nodes 2;group 0 1;delay 0 1 4", "send 0 0", "ticks 7 = 1", "when 0 0 = 6", "late 0 = -1", "ticks 3 = 1", "late 0 = 9");
        s.run("LATE: one that is DOWN has not", "right: nodes 2;group 0 1;delay 0 1 4", "send 0 0", "ticks 7 = 1", "crash 1", "late 0 = 6");
        s.run("LATE none: all are DOWN, and nobody has it", "right: nodes 2;group 1", "send 0 0", "crash 1", "late 0 = -1", "ticks 20", "late 0 = -1", "slowest = -1");
        s.run("LATE: all are DOWN, and have it", "right: nodes 2;group 1", "send 0 0", "ticks 4", "crash 1", "late 0 = 3");
        s.run("SLOWEST none", "slowest = -1", "right: nodes 1;group 0", "slowest = -1", "send 0 0", "slowest = -1", "ticks 4", "slowest = 0");
        s.run("SLOWEST: of several the first", "right: nodes 1;group 0", "send 0 0", "ticks 4", "send 0 0", "ticks 4", "late 0 = 3", "late 1 = 3", "slowest = 0");
        s.run("SLOWEST: the greatest", "right: nodes 1;group 0", "send 0 0", "ticks 4", "right: delay 0 0 2", "send 0 0", "ticks 7", "send 0 0", "ticks 7", "late 1 = 6", "late 2 = 6", "slowest = 1");
        s.run("SLOWEST: not one that has no LATE", "right: nodes 2;group 0;group 1", "hold 0 1 true", "send 0 1 = 0", "send 0 0 = 1", "ticks 60", "slowest = 1");
    }

    private static void first(Script s) {
        s.run("FIRST none: nobody would have both", "right: nodes 2;group 0;group 1", "send 0 0", "send 0 1", "first 0 1 = -1", "ticks 9", "first 0 1 = -1");
        s.run("FIRST none: one would not come", "right: nodes 2;group 0 1", "send 0 0", "hold 1 1 true", "send 1 0", "first 0 1 = -1", "first 1 0 = -1");
        s.run("FIRST of the least NODE that has both", Script.join(CROSSED, "first 3 4 = 4", "first 4 3 = 4", "first 4 5 = 4", "first 0 3 = 0"));
        s.run("FIRST: it would come later", "right: nodes 1;group 0", "send 0 0", "send 0 0", "first 0 1 = 0", "first 1 0 = 0", "count 4 = 0");
    }

    private static void lagAndTakes(Script s) {
        s.run("LAG of all 20, and of none", Script.join(Script.join(new String[] {"right: nodes 2;group 0"}, Script.times(20, "send 1 0")), "lag 0 = 1048575", "lag 1 = 0", "ticks 3", "lag 0 = 1048575", "ticks 1", "lag 0 = 0"));
        s.run("LAG of one that is DOWN", "right: nodes 2;group 0", "send 1 0", "crash 0", "lag 0 = 1", "ticks 60", "lag 0 = 1");
        s.run("TAKES: none", "right: nodes 2;group 0", "takes 0 = 0", "takes 1 = 0", "send 1 0", "takes 0 = 0", "takes 1 = 1");
        s.run("TAKES: from now on alone", "right: nodes 2;group 0;notice 0", "send 1 0", "ticks 2", "crash 1", "takes 1 = 1", "ticks 1", "log 0 2 = 3", "takes 1 = 0", "takes 0 = 0");
        s.run("TAKES: each time", "right: nodes 3;group 0 1;notice 1", "send 2 0", "send 2 0", "ticks 2", "takes 2 = 2", "crash 2", "takes 2 = 2", "takes 1 = 2", "takes 0 = 2");
    }

    private static void groups(Script s) {
        s.run("KNOT of nobody, and of all", "right: nodes 6;group 0 1 2;group 3 4 5;group 0 1 2 3 4 5;group 5 4 3 2 1 0", "knot 0 1 = 0", "knot 2 3 = 63", "knot 0 2 = 7", "knot 3 1 = 56");
        s.run("RING none: fewer than three GROUPS", "ring = -1", "right: nodes 3;group 0 1", "ring = -1", "right: group 1 2", "ring = -1", "right: group 0 2", "ring = 7");
        s.run("RING none: two have no NODE in both", "right: nodes 4;group 0 1;group 1 2;group 2 3", "ring = -1");
        s.run("RING none: the first and the second have no NODE in both", "right: nodes 2;group 0;group 1;group 0 1", "ring = -1");
        s.run("RING none: the second and the third have no NODE in both", "right: nodes 2;group 0 1;group 0;group 1", "ring = -1");
        s.run("RING: NODE 0 in both of the first two", "right: nodes 3;group 0 1;group 0 2;group 1 2", "ring = 7");
        s.run("RING: NODE 0 in both of the last two", "right: nodes 3;group 1 2;group 0 1;group 0 2", "ring = 7");
        s.run("RING none: a NODE is in all three", "right: nodes 4;group 0 1 3;group 1 2 3;group 0 2 3", "ring = -1");
        s.run("RING: the first three", "right: nodes 3;group 0 1;group 0 1;group 1 2;group 1 2;group 0 2;group 0 2", "ring = 21");
        s.run("RING: the last three", "right: nodes 6;group 5;group 4;group 3;group 0 1;group 1 2;group 2 0", "ring = 56");
        s.run("RING: by the first, then the second, then the third", "right: nodes 6;group 0 1;group 2 3;group 3 4;group 4 2;group 1 5;group 5 0", "ring = 49");
    }

    private static void spared(Script s) {
        s.run("SPARED: nothing was put", "right: nodes 2;group 1;notice 0", "crash 1", "send 0 0", "spared 0 = 3");
        s.run("SPARED: 0", "right: nodes 2;group 0 1", "send 0 0", "spared 0 = 4", "ticks 9", "spared 0 = 0");
        s.run("SPARED below 0", "right: nodes 2;group 1;notice 0", "send 0 0", "ticks 4", "spared 0 = 0", "crash 0", "ticks 1", "spared 0 = -1", "ticks 9", "spared 0 = -3");
    }

    private static void image(Script s) {
        String[] one = {"right: nodes 4;group 0 1 2;group 1 3;delay 0 1 3;jitter 3;notice 2;at 26 crash 2;at 27 send 3 1", "send 0 0", "send 3 1", "hold 3 1 true", "ticks 5", "send 1 0", "crash 0", "ticks 5", "send 2 1", "ticks 2"};
        String[] other = {"right: group 2;jitter 0;notice 20;delay 0 1 1;at 15 send 2 2", "hold 3 1 false", "hold 2 1 true", "seed 99", "send 1 2", "send 3 1", "ticks 20", "crash 1", "ticks 30", "ahead 0 1", "line 0", "due 2 0", "send 3 2", "ticks 3"};
        String[] none = {};
        s.comesBack("THE IMAGE of all", one, other);
        s.comesBack("THE IMAGE of all, and on from there", one, other, "send 2 0", "hold 3 1 false", "ticks 9", "crash 1", "ticks 40", "send 3 0", "right: jitter 1", "ticks 9");
        s.comesBack("THE IMAGE of a net without NODES", none, one);
        s.comesBack("THE IMAGE of a net without NODES, and on from there", none, one, "right: nodes 3;group 0 1 2;notice 0", "crash 2", "send 0 0", "send 1 0", "ticks 9", "crash 0", "ticks 1");
        s.comesBack("COST 0 at first, also behind going back", new String[] {"right: nodes 2;group 0;group 1;notice 0"}, new String[] {"send 0 0", "send 0 0", "ticks 9"}, "crash 1", "send 0 1");
        String[] many = Script.join(new String[] {"right: nodes 6;group 0 1 2 3 4 5"}, Script.times(20, "send 0 0"));
        s.comesBack("THE IMAGE of 120 PACKETS", many, new String[] {"ticks 2", "crash 0", "ticks 20"}, "ticks 1");
        s.comesBack("THE IMAGE of few PACKETS, and 120 since", new String[] {"right: nodes 6;group 0 1 2 3 4 5", "send 1 0", "ticks 1"}, Script.times(19, "send 0 0"), "ticks 2", "send 2 0", "ticks 1");
        s.run("no IMAGE is kept", "back = false", "right: nodes 2;group 0;jitter 1", "send 0 0", "ticks 3", "back = false", "count 0 = 2", "count 4 = 3", "count 3 = 1", "count 5 = 1", "fault = -1");
        s.run("THE IMAGE of an empty net", "image", "right: nodes 2;group 0;jitter 1;notice 9;at 3 crash 0", "send 0 0", "ticks 2", "back = true", "count 0 = 0", "count 1 = 0", "count 2 = 0", "count 3 = 0",
            "count 4 = 0", "count 5 = 0", "count 6 = 3", "count 7 = 0", "count 8 = 0", "count 9 = 0", "seed 1 = 1");
        s.run("THE IMAGE is gone back to again and again", "right: nodes 1;group 0", "image", "send 0 0", "back = true", "count 3 = 0", "send 0 0 = 0", "ticks 4 = 1", "back = true", "count 3 = 0", "count 4 = 0", "back = true");
        s.run("one IMAGE: the latest", "image", "right: nodes 2", "image", "ticks 3", "image", "ticks 3", "back = true", "count 4 = 3", "count 0 = 2");
        s.run("but for the TAPE", "right: nodes 2", "tape: notice 9", "image", "end 0 = true", "back = true", "end 1 = false", "tape: notice 8", "back = true", "end 8 = true", "net = 2", "count 6 = 8");
        s.run("but for fault()", "right: nodes 2", "image", "wrong: foo @ 0", "back = true", "fault = 0", "image", "right: ", "fault = -1", "back = true", "fault = -1");
        s.run("going back to UP", "right: nodes 2;group 0;notice 0", "image", "crash 0", "node 0 5 = 1", "back = true", "node 0 0 = 1", "node 0 5 = 0", "crash 0", "crash 0" + NO_STATE);
    }
}
