/** The bounds that 'Terms' names: how many there may be, what a number may be, what there is at first. */
public final class TermsBoundsTest {
    private static final String NO_INDEX = " ! IndexOutOfBoundsException";
    private static final String NO_STATE = " ! IllegalStateException";
    private static final String ALL = "right: nodes 6;group 0 1 2 3 4 5";

    private TermsBoundsTest() {
    }

    public static void main(String[] args) {
        Script s = new Script();
        nodes(s);
        groups(s);
        channels(s);
        jitterAndNotice(s);
        messages(s);
        stamps(s);
        holdings(s);
        gathers(s);
        events(s);
        ticks(s);
        s.finish();
    }

    private static void nodes(Script s) {
        s.run("no NODES at first", "count 0 = 0", "node 0 0" + NO_INDEX, "node -1 0" + NO_INDEX);
        s.run("NODES 1 to 6: 0", "wrong: nodes 0 @ 6", "count 0 = 0", "node 0 0" + NO_INDEX);
        s.run("NODES 1 to 6: 1", "right: nodes 1", "count 0 = 1", "node 0 0 = 1", "node 1 0" + NO_INDEX, "node -1 0" + NO_INDEX);
        s.run("NODES 1 to 6: 2", "right: nodes 2", "count 0 = 2", "node 1 0 = 1", "node 2 0" + NO_INDEX);
        s.run("NODES 1 to 6: 5", "right: nodes 5", "count 0 = 5", "node 4 0 = 1", "node 5 0" + NO_INDEX);
        s.run("NODES 1 to 6: 6", "right: nodes 6", "count 0 = 6", "node 5 0 = 1", "node 6 0" + NO_INDEX);
        s.run("NODES 1 to 6: 7", "wrong: nodes 7 @ 6", "count 0 = 0", "node 0 0" + NO_INDEX);
        s.run("UP at first", Script.join(new String[] {"right: nodes 6"}, Script.times(6, "node # 0 = 1")));
        s.run("CLOCK 0 at first", Script.join(new String[] {"right: nodes 6"}, Script.times(6, "node # 1 = 0")));
        s.run("DOWN for good", ALL, "crash 5", "node 5 0 = 0", "ticks 60", "node 5 0 = 0", "right: notice 20;at 60 crash 5;at 60 send 5 0", "ticks 60",
            "node 5 0 = 0", "crash 5" + NO_STATE, "send 0 0 = 0", "ticks 60 = 5", "node 5 0 = 0", "has 5 0 0 = 0");
    }

    private static void groups(Script s) {
        s.run("no GROUPS at first", "count 1 = 0", "group 0" + NO_INDEX, "right: nodes 6", "count 1 = 0", "group 0" + NO_INDEX);
        s.run("GROUPS at most 6: 5, then the 6th", "right: nodes 6;group 0;group 1;group 2;group 3;group 4", "group 4 = 16", "group 5" + NO_INDEX,
            "right: group 5", "group 5 = 32", "group 6" + NO_INDEX, "count 1 = 6");
        s.run("GROUPS at most 6: the 7th", "right: nodes 6;group 0;group 1;group 2;group 3;group 4;group 5", "wrong: group 0 @ 0", "count 1 = 6",
            "group 6" + NO_INDEX, "group 0 = 1");
        s.run("GROUPS are numbered from 0 on", "right: nodes 3;group 2;group 1 0", "group 0 = 4", "group 1 = 3", "group -1" + NO_INDEX);
        s.run("a GROUP of one NODE, and of all", "right: nodes 6;group 5;group 5 4 3 2 1 0", "group 0 = 32", "group 1 = 63");
        s.run("two GROUPS may have like NODES", "right: nodes 2;group 0 1;group 1 0", "group 0 = 3", "group 1 = 3", "knot 0 1 = 3");
    }

    private static void channels(Script s) {
        for (int from = 0; from < 6; from++) {
            for (int what = 0; what < 4; what++) {
                // DELAY 1, not HELD, no PACKETS, LAST 0
                s.run("a CHANNEL at first", Script.join(new String[] {"right: nodes 6"},
                    Script.times(6, "channel " + from + " # " + what + " = " + (what == 0 ? 1 : 0))));
            }
        }
        s.run("of one and itself a CHANNEL", "right: nodes 1;group 0;delay 0 0 4", "channel 0 0 0 = 4", "send 0 0", "packet 0 0 0 0 = 4",
            "hold 0 0 true = true", "channel 0 0 1 = 1");
        s.run("a CHANNEL from the one to the other one", "right: nodes 2;group 0 1;delay 0 1 4", "channel 0 1 0 = 4", "channel 1 0 0 = 1", "hold 0 1 true",
            "channel 0 1 1 = 1", "channel 1 0 1 = 0", "send 0 0", "channel 0 1 2 = 1", "channel 1 0 2 = 0", "channel 0 1 3 = 4", "channel 1 0 3 = 0");
        s.run("DELAY 1 to 9: 0", "right: nodes 2;delay 0 1 5", "wrong: delay 0 1 0 @ 10", "channel 0 1 0 = 5");
        s.run("DELAY 1 to 9: 1", "right: nodes 2;delay 0 1 5", "right: delay 0 1 1", "channel 0 1 0 = 1");
        s.run("DELAY 1 to 9: 2", "right: nodes 2;delay 0 1 2", "channel 0 1 0 = 2");
        s.run("DELAY 1 to 9: 8", "right: nodes 2;delay 0 1 8", "channel 0 1 0 = 8");
        s.run("DELAY 1 to 9: 9", "right: nodes 2;delay 0 1 9", "channel 0 1 0 = 9");
        s.run("DELAY 1 to 9: 10", "right: nodes 2;delay 0 1 5", "wrong: delay 0 1 10 @ 10", "channel 0 1 0 = 5");
        s.run("LAST is the time of the latest one put", "right: nodes 1;group 0", "ticks 7", "channel 0 0 3 = 0", "send 0 0", "channel 0 0 3 = 8", "ticks 2",
            "channel 0 0 3 = 9");
    }

    private static void jitterAndNotice(Script s) {
        s.run("JITTER 0 at first", "count 5 = 0");
        s.run("JITTER 0 to 5: 0", "right: jitter 3", "right: jitter 0", "count 5 = 0");
        s.run("JITTER 0 to 5: 1", "right: jitter 1", "count 5 = 1");
        s.run("JITTER 0 to 5: 4", "right: jitter 4", "count 5 = 4");
        s.run("JITTER 0 to 5: 5", "right: jitter 5", "count 5 = 5");
        s.run("JITTER 0 to 5: 6", "right: jitter 3", "wrong: jitter 6 @ 7", "count 5 = 3");
        s.run("JITTER 0 to 5: below", "right: jitter 3", "wrong: jitter -1 @ 7", "count 5 = 3");
        s.run("NOTICE 3 at first", "count 6 = 3");
        s.run("NOTICE 0 to 20: 0", "right: notice 0", "count 6 = 0");
        s.run("NOTICE 0 to 20: 1", "right: notice 1", "count 6 = 1");
        s.run("NOTICE 0 to 20: 19", "right: notice 19", "count 6 = 19");
        s.run("NOTICE 0 to 20: 20", "right: notice 20", "count 6 = 20");
        s.run("NOTICE 0 to 20: 21", "right: notice 7", "wrong: notice 21 @ 7", "count 6 = 7");
        s.run("NOTICE 0 to 20: below", "right: notice 7", "wrong: notice -1 @ 7", "count 6 = 7");
    }

    private static void messages(Script s) {
        s.run("no MESSAGES at first", "count 3 = 0", "message 0 0" + NO_INDEX, "right: nodes 2;group 0 1", "count 3 = 0", "message 0 0" + NO_INDEX);
        String[] nineteen = Script.join(new String[] {ALL}, Script.times(19, "send 1 0 = #"));
        s.run("MESSAGES at most 20: 19", Script.join(nineteen, "count 3 = 19", "message 18 0 = 1", "message 19 0" + NO_INDEX));
        s.run("MESSAGES at most 20: the 20th", Script.join(nineteen, "send 1 0 = 19", "count 3 = 20", "message 19 0 = 1", "message 20 0" + NO_INDEX));
        s.run("MESSAGES at most 20: the 21st", Script.join(nineteen, "send 1 0 = 19", "send 1 0" + NO_STATE, "count 3 = 20", "message 20 0" + NO_INDEX));
        s.run("MESSAGES at most 20, also when they are DELIVERED", Script.join(nineteen, "send 1 0 = 19", "ticks 60 = 120", "send 1 0" + NO_STATE,
            "those 5 3 = 1048575", "delivered 5 19 = 19", "delivered 5 20 = -1"));
        s.run("MESSAGES are numbered from 0 on", "right: nodes 2;group 0 1;group 1", "send 1 1 = 0", "send 0 0 = 1", "message 0 0 = 1", "message 1 0 = 0",
            "message -1 0" + NO_INDEX);
        s.run("TO is of the GROUP", "right: nodes 3;group 0 2", "send 1 0", "message 0 1 = 5", "message 0 0 = 1");
        s.run("COST 0 at first", "right: nodes 2;group 1;notice 0", "crash 1", "send 0 0 = 0", "message 0 2 = 0");
        s.run("COST of one PACKET", "right: nodes 2;group 1;notice 1", "crash 1", "send 0 0 = 0", "message 0 2 = 1");
        s.run("BEGUN in TICK 0, and in a later one", "right: nodes 1;group 0", "send 0 0", "ticks 9", "late 0 = 3", "send 0 0", "ticks 9", "late 1 = 3");
    }

    private static void stamps(Script s) {
        // in NODE 0 MESSAGE 0 is PROPOSED with (2, 0), and MESSAGE 1 becomes FINAL with (1, 5): it is not held back
        s.run("a STAMP is less, if its number is less", "right: nodes 6;group 0 5;group 0", "hold 0 0 true", "send 1 1", "hold 1 0 true", "send 5 0 = 1", "ticks 2",
            "has 0 1 1 = 1", "hold 5 0 true", "hold 1 0 false", "ticks 1", "has 0 0 1 = 2", "has 0 0 2 = 0", "hold 5 0 false", "ticks 1", "has 0 1 1 = 1",
            "has 0 1 2 = 5", "has 0 1 0 = 3", "block 0 0 = 0");
        // both end with the number 2, MESSAGE 0 with NODE 1, MESSAGE 1 with NODE 0
        s.run("of like numbers the NODE", "right: nodes 2;group 0 1;delay 0 1 2;delay 1 0 2", "send 0 0", "send 1 0", "ticks 12", "has 1 0 1 = 2",
            "has 1 0 2 = 1", "has 1 1 1 = 2", "has 1 1 2 = 0", "delivered 1 0 = 1", "delivered 1 1 = 0");
    }

    private static void holdings(Script s) {
        s.run("nothing at first, and no STAMP, no LEADER", "right: nodes 2;group 0", "send 1 0", "has 0 0 0 = 0", "has 0 0 1 = -1", "has 0 0 2 = -1",
            "has 0 0 3 = -1", "has 1 0 0 = 0", "when 0 0 = -1", "ticks 1", "has 0 0 0 = 0", "ticks 1", "has 0 0 0 = 1", "has 0 0 1 = 1", "has 0 0 2 = 0",
            "has 0 0 3 = 1", "when 0 0 = -1");
        s.run("WHEN of TICK 3, and of none ahead of it", "right: nodes 1;group 0", "send 0 0", "ticks 3 = 0", "when 0 0 = -1", "ticks 1 = 1", "when 0 0 = 3",
            "ticks 9", "when 0 0 = 3");
    }

    private static void gathers(Script s) {
        s.run("of a GATHER none at first, all", "right: nodes 2;group 0 1", "send 0 0", "gather 0 0 0 = 0", "gather 0 0 1 = -1", "gather 0 0 2 = -1",
            "gather 0 0 3 = -1");
        s.run("none at first, also of who takes over", "right: nodes 3;group 0 1;notice 0", "send 2 0", "ticks 2", "crash 2", "ticks 1", "gather 0 0 0 = 0",
            "gather 0 0 1 = -1", "gather 0 0 2 = -1", "gather 0 0 3 = -1", "gather 1 0 0" + NO_STATE);
        s.run("no GATHER without a MESSAGE", ALL, "gather 0 0 0" + NO_INDEX);
    }

    private static void events(Script s) {
        s.run("no EVENTS at first", "count 7 = 0", "event 0 0" + NO_INDEX);
        String seven = "right: nodes 1;at 1 crash 0;at 2 crash 0;at 3 crash 0;at 4 crash 0;at 5 crash 0;at 6 crash 0;at 7 crash 0";
        s.run("at most 8 EVENTS: 7", seven, "count 7 = 7", "event 6 0 = 7", "event 7 0" + NO_INDEX);
        s.run("at most 8 EVENTS: the 8th", seven, "right: at 8 crash 0", "count 7 = 8", "event 7 0 = 8", "event 8 0" + NO_INDEX);
        s.run("at most 8 EVENTS: the 9th", seven, "right: at 8 crash 0", "wrong: at 9 crash 0 @ 0", "count 7 = 8", "event 8 0" + NO_INDEX);
        s.run("at most 8 EVENTS of one text", "wrong: nodes 1" + ";at 1 crash 0".repeat(9) + " @ 112", "right: nodes 1" + ";at 1 crash 0".repeat(8));
        s.run("at most 8 EVENTS waiting: one is gone", seven, "right: at 8 crash 0", "ticks 1", "wrong: at 9 crash 0 @ 0", "ticks 1", "count 7 = 7",
            "event 0 0 = 2", "right: at 9 crash 0", "count 7 = 8", "event 7 0 = 9", "wrong: at 9 crash 0 @ 0");
    }

    private static void ticks(Script s) {
        s.run("TICK 0 on", "count 4 = 0", "ticks 1", "count 4 = 1", "ticks 60", "count 4 = 61");
        // far beyond what the time of an EVENT can be
        s.run("TICK goes on", Script.join(new String[] {"right: nodes 1;group 0"}, Script.join(Script.times(60, "ticks 60"), "count 4 = 3600", "send 0 0",
            "log 0 0 = 3600", "packet 0 0 0 0 = 3601", "channel 0 0 3 = 3601", "due 0 0 = 4", "ticks 4 = 1", "when 0 0 = 3603", "late 0 = 3")));
    }
}
