/** Promises 37 to 42: EVENTS that wait, THE LOG, SEED, THE IMAGE and what is counted. */
public final class KeepPromisesTest {
    private static final String NO_INDEX = " ! IndexOutOfBoundsException";
    private static final String NO_WHAT = " ! NoSuchElementException";

    private KeepPromisesTest() {
    }

    public static void main(String[] args) {
        Script s = new Script();
        s.run("37 event", "event 0 0" + NO_INDEX, "right: nodes 3;group 0 1;group 2;at 7 crash 2;at 3 send 1 1;at 7 send 0 0", "event 0 0 = 7",
            "event 0 1 = 1", "event 0 2 = 2", "event 0 3 = -1", "event 1 0 = 3", "event 1 1 = 0", "event 1 2 = 1", "event 1 3 = 1", "event 2 3 = 0",
            "event 3 0" + NO_INDEX, "event -1 0" + NO_INDEX, "event 0 4" + NO_WHAT, "event 0 -1" + NO_WHAT, "event 3 4" + NO_INDEX, "ticks 4",
            "event 0 0 = 7", "event 1 0 = 7", "event 1 1 = 0", "event 2 0" + NO_INDEX);
        log(s);
        s.run("39 seed", "seed 5 = 1", "seed -7 = 5", "seed 2147483647 = -7", "seed 1 = 2147483647", "right: nodes 1;group 0;jitter 1", "send 0 0",
            "seed 3 = 1103527590", "packet 0 0 0 0 = 1", "send 0 0", "seed 1 = " + (1103515245 * 3 + 12345));
        image(s);
        s.run("42 count", "right: nodes 3;group 0 1;group 2;jitter 2;notice 7;at 9 crash 2", "right: jitter 0", "send 0 0", "ticks 2", "count 0 = 3",
            "count 1 = 2", "count 2 = 2", "count 3 = 1", "count 4 = 2", "count 5 = 0", "count 6 = 7", "count 7 = 1", "count 8 = 2", "count 9 = 1",
            "count 10 = -1", "count -1 = -1", "count 2147483647 = -1", "count -2147483648 = -1", "ticks 2", "count 8 = 0", "count 9 = 3");
        s.finish();
    }

    private static void log(Script s) {
        s.run("38 log", "log 0 0 = -1", "log 0 4" + NO_WHAT, "log 0 -1" + NO_WHAT, "log -1 4" + NO_WHAT, "right: nodes 2;group 0 1;notice 1", "ticks 3",
            "send 1 0 = 0", "log 0 0 = 3", "log 0 1 = 1", "log 0 2 = 0", "log 0 3 = 0", "log 1 0 = -1", "log -1 0 = -1", "ticks 4", "log 0 0 = 6",
            "log 0 1 = 1", "log 0 2 = 1", "log 0 3 = 0", "log 1 1 = 0", "log 2 2 = 0", "crash 1", "log 0 0 = 7", "log 0 1 = 1", "log 0 2 = 2",
            "log 0 3 = -1", "ticks 2", "log 0 0 = 8", "log 0 1 = 0", "log 0 2 = 3", "log 0 3 = 0", "count 9 = 5", "log 4 0 = 3", "log 5 0 = -1");
        // 14 are sent and DELIVERED by 4: 70 rows, the first 10 are gone
        String[] rows = new String[26];
        rows[0] = "right: nodes 4;group 0 1 2 3";
        for (int k = 0; k < 14; k++) {
            rows[1 + k] = "send 0 0 = " + k;
        }
        rows[15] = "ticks 2 = 0";
        rows[16] = "count 9 = 14";
        rows[17] = "ticks 5 = 56";
        rows[18] = "count 9 = 60";
        rows[19] = "log 59 2 = 0";
        rows[20] = "log 59 3 = 10";
        rows[21] = "log 56 3 = 13";
        rows[22] = "log 55 2 = 1";
        rows[23] = "log 55 1 = 0";
        rows[24] = "log 60 2 = -1";
        rows[25] = "log 0 3 = 13";
        s.run("38 log of 60", rows);
    }

    private static void image(Script s) {
        s.run("40, 41 image and back", "back = false", "right: nodes 3;group 0 1;delay 0 1 2;at 30 crash 1", "send 0 0 = 0", "hold 1 0 true", "ticks 3",
            "seed 77 = 1", "image", "seed 5 = 77", "right: group 2;jitter 3;notice 9;delay 0 1 5", "hold 1 0 false", "ticks 20", "crash 0", "send 1 1 = 1",
            "ticks 20", "back = true", "count 0 = 3", "count 1 = 1", "count 2 = 1", "count 3 = 1", "count 4 = 3", "count 5 = 0", "count 6 = 3",
            "count 7 = 1", "event 0 0 = 30", "count 9 = 1", "node 0 0 = 1", "node 0 4 = 3", "channel 0 1 0 = 2", "channel 1 0 1 = 1", "channel 1 0 2 = 1",
            "packet 1 0 0 1 = 1", "has 0 0 0 = 1", "gather 0 0 0 = 1", "message 0 2 = 4", "when 0 0 = -1", "delivered 0 0 = -1", "seed 1 = 77",
            "hold 1 0 false = true", "ticks 2 = 1", "ticks 2 = 1", "back = true", "has 0 0 0 = 1", "gather 0 0 0 = 1");
        // all that THE IMAGE keeps has become another one by the time one goes back
        s.run("41 back to what was DELIVERED", "image", "right: nodes 3;group 0 1;group 1 2;notice 1;at 40 send 2 1;at 41 crash 1", "send 0 0 = 0",
            "ticks 5 = 2", "send 1 1 = 1", "hold 2 1 true", "ticks 3", "image", "back = true", "crash 0", "ticks 60", "back = true", "node 1 1 = 2",
            "node 1 4 = 4", "message 1 0 = 1", "has 1 1 1 = 2", "has 1 0 3 = 0", "when 1 0 = 3", "late 0 = 3", "gather 1 1 0 = 2", "gather 1 1 1 = 2",
            "gather 1 1 3 = -1", "log 0 2 = 0", "log 0 0 = 5", "log 1 2 = 1", "count 9 = 4", "event 0 2 = 2", "event 0 3 = 1", "event 1 3 = -1",
            "outside 0 = 0", "line 0 = 0", "line 1 = -1", "hold 2 1 false = true", "ticks 4 = 2", "ahead 0 1 = true", "line 1 = 1", "back = true",
            "ahead 0 1 = false", "line 1 = -1", "send 0 0 = 2", "log 0 3 = 2", "log 1 3 = 1", "log 2 3 = 0", "spared 1 = 2");
        s.run("41 back leaves the TAPE, fault() and THE IMAGE", "image", "right: nodes 2", "wrong: nodes 3;  @ 0", "tape: nodes 4", "back = true",
            "fault = 0", "count 0 = 0", "end 7 = true", "net = 1", "count 0 = 4", "back = true", "count 0 = 0", "count 2 = 0");
        s.run("40 the latest image", "image", "right: nodes 2", "image", "crash 0", "back = true", "node 0 0 = 1", "crash 0", "back = true", "node 0 0 = 1");
    }
}
