import java.util.ArrayList;
import java.util.List;

/** The bounds that stand under the promises: of each number of each call both bounds, one beyond on each side, and far beyond. */
public final class CallBoundsTest {
    private static final String NO_INDEX = " ! IndexOutOfBoundsException";
    private static final String NO_WHAT = " ! NoSuchElementException";
    private static final String NO_STATE = " ! IllegalStateException";
    private static final String NO_ARGUMENT = " ! IllegalArgumentException";
    private static final String NO_TEXT = " ! UnsupportedOperationException";
    private static final String NONE = " = -1";
    /** 3 NODES, 2 GROUPS, 5 MESSAGES, of which NODE 0 DELIVERED 2, a PACKET in each CHANNEL, 2 EVENTS, 7 rows of THE LOG. */
    private static final String[] NET = {
        "right: nodes 3;group 0 1 2;group 0;at 50 send 0 1;at 51 crash 2", "send 0 1", "send 1 1", "ticks 4 = 2", "send 0 0", "send 1 0", "send 2 0", "count 3 = 5", "count 9 = 7", "count 8 = 9",
    };

    private CallBoundsTest() {
    }

    public static void main(String[] args) {
        Script s = new Script();
        tape(s);
        texts(s);
        state(s);
        runs(s);
        asks(s);
        keeps(s);
        s.finish();
    }

    /** Of the numbers that # may be the least and the most end with what is told of those within, all others with beyond. */
    private static void bounds(Script s, String[] before, String row, int least, int most, String within, String beyond) {
        for (int number : new int[] {least, most}) {
            s.run("within: " + row, Script.join(before, row.replace("#", String.valueOf(number)) + within));
        }
        List<String> rows = new ArrayList<>(List.of(before));
        for (int number : new int[] {least - 1, most + 1, least - 2, most + 2, Integer.MIN_VALUE, Integer.MIN_VALUE + 1, Integer.MAX_VALUE, Integer.MAX_VALUE - 1, 1 << 16, 1 << 30}) {
            rows.add(row.replace("#", String.valueOf(number)) + beyond);
        }
        s.run("beyond: " + row, rows.toArray(new String[0]));
    }

    private static void bounds(Script s, String row, int least, int most, String beyond) {
        bounds(s, NET, row, least, most, "", beyond);
    }

    private static void tape(Script s) {
        String[] nineteen = new String[19];
        for (int k = 0; k < 19; k++) {
            nineteen[k] = "feed 0 0 0 0 0 = " + 20 * (k + 1);
        }
        s.run("2: 400 bytes", Script.join(nineteen, "feed 0 0 0 0 0 = 400", "end 400 = true"));
        s.run("2: more than 400 bytes", Script.join(nineteen, "feed 0 0 0 0 0 = 400", "feed 0 0 0 0 0 = -1", "end 401 = false", "end 400 = true", "feed 0 0 0 0 0 = -1"));
        s.run("2: 380 bytes and 20", Script.join(nineteen, "feed 0 0 0 0 0 = 400", "end 380 = true", "feed 0 0 0 0 0 = 400"));
        s.run("2: 381 bytes and 20", Script.join(nineteen, "feed 0 0 0 0 0 = 400", "end 381 = true", "feed 0 0 0 0 0 = -1", "end 382 = false", "end 381 = true"));
        s.run("2: 379 bytes and 20", Script.join(nineteen, "end 379 = true", "feed 0 0 0 0 0 = 399", "feed 0 0 0 0 0 = -1", "end 399 = true"));
        // the last twenty bytes that have room are those of a text, and none came behind them
        s.run("2: none come, if it would have more", Script.join(Script.times(19, "feed 538976288 538976288 538976288 538976288 538976288"), "feed 538976288 1852793957 1931489824 538976288 538976288 = 400",
            "feed 1 1 1 1 1 = -1", "net = 1", "count 0 = 2", "feed 0 0 0 0 0 = 20"));
        // 0x6e6f6465 'node', 0x73203600 's 6' and a zero; a number below 0 has its highest byte above 127
        s.run("2: of each number the highest first", "feed 1852793957 1931490816 0 0 0 = 20", "end 7 = true", "net = 1", "count 0 = 6", "feed -2147483648 0 0 0 0 = 20", "net" + NO_ARGUMENT, "fault = 0",
            "feed 538976288 538976511 0 0 0 = 20", "net" + NO_ARGUMENT, "fault = 7");
        s.run("3: n below 0", "end -1 = false", "end -2147483648 = false", "feed 0 0 0 0 0 = 20", "end -1 = false", "end -2147483648 = false", "end 20 = true");
        s.run("3: it has fewer", "end 1 = false", "feed 0 0 0 0 0 = 20", "end 21 = false", "end 2147483647 = false", "end 20 = true", "end 19 = true", "end 20 = false", "end 19 = true");
        s.run("3: none is left", "end 0 = true", "feed 0 0 0 0 0 = 20", "end 0 = true", "end 1 = false", "feed 0 0 0 0 0 = 20");
        s.run("3: its first n bytes alone", "tape: jitter 45", "end 8 = true", "net = 1", "count 5 = 4");
    }

    private static void texts(Script s) {
        String[] twelve = Script.times(12, "right: jitter 1");
        s.run("4: there are 12", Script.join(twelve, "tape: jitter 2", "net" + NO_TEXT, "count 5 = 1", "count 2 = 12", "end 1 = false"));
        s.run("4: how many there are", "net = 1", "net = 2", "net = 3", "count 2 = 3");
        s.run("4: it is wrong", "tape: jitter 6", "net" + NO_ARGUMENT, "end 1 = false", "count 2 = 0", "net = 1");
        s.run("4: it is wrong, and there are 12", Script.join(twelve, "tape: jitter 6", "net" + NO_ARGUMENT, "fault = 7", "end 1 = false", "tape: jitter 5", "net" + NO_TEXT, "fault = -1", "end 1 = false"));
        s.run("5: ahead of any", "fault = -1", "tape: foo", "fault = -1", "end 0", "fault = -1");
        s.run("5: without one", "wrong: foo @ 0", "fault = 0", "tape: jitter 1", "fault = 0", "net = 1", "fault = -1");
        s.run("5: the text's length of 400", "wrong: " + "jitter 1;".repeat(13) + "jitter 1" + " ".repeat(274) + "; @ 400");
    }

    private static void state(Script s) {
        bounds(s, "node # 0", 0, 2, NO_INDEX);
        bounds(s, "node 2 #", 0, 5, NO_WHAT);
        bounds(s, "group #", 0, 1, NO_INDEX);
        bounds(s, "message # 0", 0, 4, NO_INDEX);
        bounds(s, "message 4 #", 0, 4, NO_WHAT);
        bounds(s, "has # 4 0", 0, 2, NO_INDEX);
        bounds(s, "has 2 # 0", 0, 4, NO_INDEX);
        bounds(s, "has 2 4 #", 0, 3, NO_WHAT);
        bounds(s, "has 0 0 #", 0, 3, NO_WHAT);
        bounds(s, "delivered # 0", 0, 2, NO_INDEX);
        bounds(s, NET, "delivered 0 #", 0, 1, "", NONE);
        s.run("10: NONE without", Script.join(NET, "delivered 0 0 = 0", "delivered 0 1 = 1", "delivered 0 2 = -1", "delivered 1 0 = -1"));
        bounds(s, "channel # 0 0", 0, 2, NO_INDEX);
        bounds(s, "channel 0 # 0", 0, 2, NO_INDEX);
        bounds(s, "channel 2 2 #", 0, 3, NO_WHAT);
        bounds(s, "packet # 1 0 0", 0, 2, NO_INDEX);
        bounds(s, "packet 1 # 0 0", 0, 2, NO_INDEX);
        bounds(s, "packet 2 2 # 0", 0, 0, NO_INDEX);
        bounds(s, Script.join(NET, "send 2 0"), "packet 2 1 # 0", 0, 1, "", NO_INDEX);
        bounds(s, "packet 2 2 0 #", 0, 4, NO_WHAT);
        bounds(s, NET, "gather # 0 0", 0, 2, NO_STATE, NO_INDEX);
        bounds(s, NET, "gather 1 # 0", 0, 4, NO_STATE, NO_INDEX);
        bounds(s, "gather 2 4 #", 0, 3, NO_WHAT);
        bounds(s, NET, "gather 2 0 #", 0, 3, NO_STATE, NO_STATE);
        s.run("12: NONE without", Script.join(NET, "packet 0 0 0 3 = -1", "packet 0 0 0 4 = -1", "ticks 2", "packet 0 0 0 3 = 3", "packet 0 0 0 4 = 0"));
        s.run("13: NONE without", Script.join(NET, "gather 0 2 0 = 0", "gather 0 2 1 = -1", "gather 0 2 2 = -1", "gather 0 2 3 = -1"));
    }

    private static void runs(Script s) {
        bounds(s, "ticks #", 1, 60, NO_ARGUMENT);
        s.run("14: they are none, and no TICK went by", "ticks 0" + NO_ARGUMENT, "ticks 61" + NO_ARGUMENT, "ticks -1" + NO_ARGUMENT, "count 4 = 0", "ticks 1 = 0", "count 4 = 1", "ticks 60 = 0", "count 4 = 61");
        bounds(s, "send # 0", 0, 2, NO_INDEX);
        bounds(s, "send 0 #", 0, 1, NO_INDEX);
        s.run("15: there are 20", Script.join(NET, Script.join(Script.times(15, "send 2 1"), "count 3 = 20", "send 2 1" + NO_STATE, "crash 2", "send 2 1" + NO_STATE)));
        s.run("15: it is DOWN", Script.join(NET, "crash 2", "send 2 1" + NO_STATE, "count 3 = 5", "send 1 1 = 5"));
        bounds(s, "crash #", 0, 2, NO_INDEX);
        s.run("16: it is", Script.join(NET, "crash 2", "crash 2" + NO_STATE, "ticks 60", "crash 2" + NO_STATE, "node 2 0 = 0"));
        bounds(s, "hold # 0 true", 0, 2, NO_INDEX);
        bounds(s, "hold 0 # true", 0, 2, NO_INDEX);
        bounds(s, "hold # # false", 0, 2, NO_INDEX);
        s.run("17: whether that changed", Script.join(NET, "hold 2 1 false = false", "hold 2 1 true = true", "hold 2 1 true = false", "hold 2 1 false = true", "hold 2 1 false = false"));
        s.run("17: of one that is DOWN too", Script.join(NET, "crash 2", "hold 2 1 true = true", "hold 1 2 true = true", "hold 1 2 true = false"));
    }

    private static void asks(Script s) {
        for (String call : new String[] {"due", "block", "after", "when"}) {
            bounds(s, call + " # 0", 0, 2, NO_INDEX);
            bounds(s, call + " 0 #", 0, 4, NO_INDEX);
        }
        for (String call : new String[] {"waits", "outside", "late", "spared"}) {
            bounds(s, call + " #", 0, 4, NO_INDEX);
        }
        for (String call : new String[] {"ahead", "first"}) {
            bounds(s, call + " # 2", 0, 4, NO_INDEX);
            bounds(s, call + " 2 #", 0, 4, NO_INDEX);
            bounds(s, NET, call + " # #", 0, 4, NO_ARGUMENT, NO_INDEX);
        }
        bounds(s, "parted # 1", 0, 2, NO_INDEX);
        bounds(s, "parted 1 #", 0, 2, NO_INDEX);
        bounds(s, NET, "parted # #", 0, 2, NO_ARGUMENT, NO_INDEX);
        bounds(s, Script.join(NET, "right: group 1"), "knot # 1", 0, 2, "", NO_INDEX);
        bounds(s, Script.join(NET, "right: group 1"), "knot 1 #", 0, 2, "", NO_INDEX);
        bounds(s, NET, "knot # #", 0, 1, NO_ARGUMENT, NO_INDEX);
        bounds(s, NET, "line #", 0, 1, "", NONE);
        s.run("22: NONE without", Script.join(NET, "line 0 = 0", "line 1 = 1", "line 2 = -1"));
        bounds(s, "chain # 4 0", 0, 2, NO_INDEX);
        bounds(s, "chain 2 # 0", 0, 4, NO_INDEX);
        bounds(s, Script.join(NET, "ticks 2", "block 0 4 = 2"), "chain 0 4 #", 0, 0, " = 2", NONE);
        bounds(s, "lag #", 0, 2, NO_INDEX);
        bounds(s, "takes #", 0, 2, NO_INDEX);
        bounds(s, "those # 1", 0, 2, NO_INDEX);
        bounds(s, "those 2 #", 1, 3, NO_WHAT);
        s.run("18 to 32: NONE", Script.join(NET, "due 1 0 = -1", "block 0 0 = -1", "waits 0 = -1", "when 1 0 = -1", "late 2 = -1", "first 0 2 = 0", "crash 0", "first 0 2 = -1"));
    }

    private static void keeps(Script s) {
        bounds(s, "event # 0", 0, 1, NO_INDEX);
        bounds(s, "event 1 #", 0, 3, NO_WHAT);
        bounds(s, NET, "log # 0", 0, 6, "", NONE);
        bounds(s, "log 6 #", 0, 3, NO_WHAT);
        bounds(s, "log 7 #", 0, 3, NO_WHAT);
        bounds(s, NET, "count #", 0, 9, "", NONE);
        s.run("37: NONE of crash", Script.join(NET, "event 0 3 = 1", "event 1 3 = -1", "event 0 1 = 0", "event 1 1 = 1"));
        s.run("38: NONE without", Script.join(NET, "log 6 0 = 0", "log 6 2 = 0", "log 7 0 = -1", "log 7 3 = -1", "log -1 0 = -1", "crash 2", "log 0 3 = -1", "log 0 2 = 2", "log 7 0 = 0", "log 8 0 = -1"));
        s.run("39: any SEED", "seed 2147483647 = 1", "seed -2147483648 = 2147483647", "seed 0 = -2147483648", "seed -1 = 0", "seed 1 = -1");
        s.run("41: none was kept", Script.join(NET, "back = false", "count 3 = 5", "count 4 = 4", "image", "back = true"));
        s.run("42: another what", "count 10 = -1", "count -1 = -1", "count 9 = 0", "count 0 = 0");
    }
}
