/** Promises 14 to 17, and what the parts ==== 2 of the document say of a TICK. */
public final class RunPromisesTest {
    private static final String NO_INDEX = " ! IndexOutOfBoundsException";
    private static final String NO_STATE = " ! IllegalStateException";
    private static final String NO_ARGUMENT = " ! IllegalArgumentException";

    private RunPromisesTest() {
    }

    public static void main(String[] args) {
        Script s = new Script();
        ticks(s);
        events(s);
        send(s);
        crash(s);
        takeOver(s);
        hold(s);
        s.finish();
    }

    private static void ticks(Script s) {
        s.run("14 ticks", "ticks 0" + NO_ARGUMENT, "ticks -1" + NO_ARGUMENT, "ticks 61" + NO_ARGUMENT, "count 4 = 0", "ticks 1 = 0",
            "ticks 60 = 0", "count 4 = 61", "right: nodes 3;group 0 1 2;group 1 2;delay 0 2 3", "send 0 0 = 0", "ticks 5 = 0",
            "ticks 1 = 2", "ticks 1 = 0", "ticks 1 = 1", "ticks 60 = 0", "send 1 1 = 1", "send 2 0 = 2", "ticks 60 = 5");
        // the lesser NODE of like numbers: MESSAGE 1 has (2, 0), MESSAGE 0 has (2, 1)
        s.run("14 the least STAMP first", "right: nodes 2;group 0 1;delay 0 1 2;delay 1 0 2", "send 0 0", "send 1 0",
            "ticks 3", "has 0 0 1 = 1", "has 0 1 1 = 2", "has 1 0 1 = 2", "has 1 1 1 = 1", "ticks 10 = 4", "has 0 0 1 = 2",
            "has 0 0 2 = 1", "has 0 1 1 = 2", "has 0 1 2 = 0", "delivered 0 0 = 1", "delivered 0 1 = 0", "delivered 1 0 = 1",
            "delivered 1 1 = 0");
        s.run("14 CLOCK goes up to the final number", "right: nodes 2;group 0;group 0 1", "send 0 0", "send 0 0", "send 0 0", "ticks 4 = 3",
            "node 0 1 = 3", "node 1 1 = 0", "send 0 1 = 3", "ticks 4 = 2", "node 0 1 = 4", "node 1 1 = 4", "has 1 3 1 = 4", "has 1 3 2 = 0");
        s.run("14 PACKETS of who puts first, by numbers", "right: nodes 3;group 2", "send 1 0 = 0", "send 0 0 = 1", "ticks 2",
            "has 2 1 1 = 1", "has 2 0 1 = 2");
    }

    private static void events(Script s) {
        s.run("14 EVENTS", "right: nodes 2;group 0 1;at 3 crash 1;at 2 send 0 0;at 3 send 1 0;at 3 crash 1;at 3 send 0 0;at 9 crash 0",
            "ticks 2", "count 7 = 6", "count 3 = 0", "ticks 1", "count 7 = 5", "count 3 = 1", "message 0 0 = 0", "log 0 0 = 2", "ticks 1",
            "count 7 = 1", "count 3 = 2", "message 1 0 = 0", "node 1 0 = 0", "log 0 2 = 0", "log 1 2 = 2", "log 1 0 = 3", "event 0 0 = 9",
            "ticks 6", "node 0 0 = 0", "count 7 = 0");
        s.run("14 an EVENT whose time went by in one TICK", "right: nodes 1;group 0", "ticks 4", "right: at 4 send 0 0", "ticks 1",
            "count 3 = 1", "packet 0 0 0 0 = 5");
    }

    private static void send(Script s) {
        String[] rows = new String[30];
        rows[0] = "right: nodes 2;group 0 1;group 1;notice 0;at 0 send 0 0";
        rows[1] = "send 2 0" + NO_INDEX;
        rows[2] = "send 0 2" + NO_INDEX;
        rows[3] = "send -1 0" + NO_INDEX;
        rows[4] = "send 0 -1" + NO_INDEX;
        for (int k = 0; k < 20; k++) {
            rows[5 + k] = "send 0 " + k % 2 + " = " + k;
        }
        rows[25] = "send 0 0" + NO_STATE;
        rows[26] = "send 0 2" + NO_INDEX;
        rows[27] = "count 3 = 20";
        rows[28] = "ticks 1 = 0";
        rows[29] = "count 3 = 20";
        s.run("15 send", rows);
        s.run("15 send of one that is DOWN", "right: nodes 2;group 0 1;notice 0", "crash 1", "send 1 0" + NO_STATE, "send 1 1" + NO_INDEX,
            "send 0 0 = 0", "message 0 2 = 1", "channel 0 1 2 = 0", "channel 0 1 3 = 0", "node 0 4 = 1", "ticks 4 = 1", "message 0 2 = 3");
        // to one that is DOWN and not NOTICED yet it is put, and gone with the TICK
        s.run("15 send to one that is not NOTICED", "right: nodes 2;group 1;notice 9", "crash 1", "send 0 0 = 0", "message 0 2 = 1",
            "channel 0 1 2 = 1", "ticks 1", "channel 0 1 2 = 0", "message 0 4 = 1", "ticks 8", "message 0 4 = 1", "ticks 1",
            "message 0 4 = 0", "message 0 2 = 1");
    }

    private static void crash(Script s) {
        s.run("16 crash", "right: nodes 2;group 0 1", "crash 2" + NO_INDEX, "crash -1" + NO_INDEX, "send 0 0 = 0", "ticks 2", "crash 0",
            "node 0 0 = 0", "crash 0" + NO_STATE, "log 0 2 = 2", "log 0 1 = 0", "log 0 3 = -1", "count 8 = 2", "ticks 1", "count 8 = 0",
            "has 0 0 0 = 1", "gather 0 0 0 = 0", "message 0 4 = 1", "log 1 2 = 0");
        s.run("16 PACKETS that it put stay", "right: nodes 3;group 1 2;delay 0 1 4", "send 0 0", "crash 0", "ticks 2", "channel 0 1 2 = 1",
            "has 2 0 0 = 1", "channel 2 0 2 = 0", "ticks 3", "has 1 0 0 = 1", "has 1 0 3 = 0");
        s.run("16 HELD ones for it are gone too", "right: nodes 2;group 1", "hold 0 1 true", "send 0 0", "crash 1", "channel 0 1 2 = 1",
            "ticks 1", "channel 0 1 2 = 0", "channel 0 1 1 = 1");
        s.run("16 a GATHER without one that is NOTICED", "right: nodes 3;group 0 1 2;notice 4", "hold 1 0 true", "send 0 0", "ticks 3",
            "crash 1", "waits 0 = 2", "ticks 4", "waits 0 = 0", "gather 0 0 0 = 5", "ticks 1 = 0", "packet 0 0 0 1 = 2",
            "packet 0 0 0 3 = 1", "packet 0 0 0 4 = 2", "channel 0 1 2 = 0", "message 0 2 = 8", "ticks 1 = 2");
    }

    private static void takeOver(Script s) {
        // NODE 1 heard FINAL of NODE 2, NODE 0 did not: it takes over, and hears of the final STAMP
        s.run("16 the final STAMP is found again", "right: nodes 3;group 0 1;group 1;notice 1", "send 2 1", "ticks 4 = 1", "send 2 0 = 1",
            "ticks 2", "hold 2 0 true", "ticks 2 = 1", "has 1 1 0 = 3", "has 1 1 1 = 2", "has 0 1 0 = 1", "has 0 1 1 = 1", "crash 2",
            "ticks 1", "message 1 4 = 0", "ticks 1", "message 1 4 = 1", "log 0 2 = 3", "log 0 1 = 1", "log 0 3 = 0", "log 0 0 = 9",
            "log 1 2 = 3", "log 1 1 = 0", "log 1 3 = 1", "ticks 2 = 0", "packet 0 0 0 1 = 2", "packet 0 0 0 3 = 2", "packet 0 0 0 4 = 1",
            "ticks 1 = 1", "has 0 1 1 = 2", "has 0 1 2 = 1", "has 1 1 3 = 0", "delivered 1 1 = 1", "delivered 1 2 = -1");
        s.run("16 the final STAMP of all", "right: nodes 3;group 0 1;notice 1", "send 2 0 = 0", "ticks 2", "crash 2", "ticks 2",
            "has 0 0 3 = 2", "message 0 4 = 5", "ticks 1", "has 0 0 3 = 0", "has 1 0 3 = 0", "ticks 1", "message 0 4 = 4",
            "packet 0 1 0 1 = 2", "packet 0 1 0 3 = 1", "packet 0 1 0 4 = 1", "ticks 1 = 2", "has 0 0 2 = 1", "message 0 2 = 10",
            "outside 0 = 0");
        s.run("16 only the least takes over", "right: nodes 4;group 1 2 3;notice 1;delay 0 1 9", "send 0 0", "ticks 2", "crash 0",
            "ticks 5", "count 9 = 2", "has 2 0 0 = 1", "has 1 0 0 = 0", "ticks 2", "has 1 0 0 = 0", "ticks 1", "has 1 0 0 = 1", "log 0 2 = 3",
            "log 0 1 = 1", "log 0 0 = 9");
        // NODE 1 has nothing, as the REQUEST for it is HELD: by TAKE it proposes, and the REQUEST comes too late
        s.run("16 TAKE ahead of REQUEST", "right: nodes 3;group 0 1;notice 1", "hold 2 1 true", "send 2 0", "ticks 2", "crash 2", "ticks 2",
            "ticks 1", "has 1 0 0 = 1", "has 1 0 1 = 1", "has 1 0 3 = 0", "hold 2 1 false", "ticks 1", "node 1 1 = 1", "has 1 0 3 = 0",
            "ticks 1 = 2", "message 0 2 = 9");
        // FINAL of one who is not the LEADER any more changes CLOCK alone
        s.run("16 FINAL of another one", "right: nodes 4;group 0 1;group 0;notice 1", "send 0 1", "send 0 1", "ticks 4 = 2", "send 2 0 = 2",
            "ticks 2", "hold 2 1 true", "hold 2 0 true", "ticks 1", "packet 2 1 0 1 = 2", "packet 2 1 0 3 = 3", "crash 2", "ticks 3",
            "has 1 2 3 = 0", "node 1 1 = 1", "hold 0 1 true", "hold 2 1 false", "ticks 1", "node 1 1 = 3", "has 1 2 0 = 1", "has 1 2 1 = 1");
        s.run("16 one that is DELIVERED is taken over too", "right: nodes 2;group 0;notice 0", "send 1 0", "ticks 4 = 1", "crash 1",
            "takes 0 = 0", "takes 1 = 1", "ticks 1", "message 0 4 = 1", "log 0 2 = 3", "ticks 3 = 0", "message 0 4 = 0", "has 0 0 3 = 0",
            "has 0 0 0 = 3");
    }

    private static void hold(Script s) {
        s.run("17 hold", "right: nodes 2;group 0 1", "hold 2 0 true" + NO_INDEX, "hold 0 2 true" + NO_INDEX, "hold -1 0 true" + NO_INDEX,
            "hold 0 -1 true" + NO_INDEX, "hold 0 1 false = false", "hold 0 1 true = true", "hold 0 1 true = false", "channel 1 0 1 = 0",
            "send 0 0", "ticks 9 = 0", "channel 0 1 2 = 1", "packet 0 1 0 0 = 1", "has 1 0 0 = 0", "has 0 0 0 = 1", "hold 0 1 false = true",
            "ticks 1", "has 1 0 0 = 1", "channel 0 1 2 = 0", "packet 1 0 0 0 = 10", "hold 0 0 true = true", "ticks 5 = 1", "has 1 0 0 = 3");
    }
}
