/** Promises 1 to 5: a new object, the TAPE, the texts of THE NET and the first wrong byte. */
public final class TextPromisesTest {
    private static final String NO_INDEX = " ! IndexOutOfBoundsException";

    private TextPromisesTest() {
    }

    public static void main(String[] args) {
        Script s = new Script();
        newObject(s);
        tape(s);
        netAndFault(s);
        wrongTexts(s);
        tooMany(s);
        s.finish();
    }

    private static void newObject(Script s) {
        s.run("1 a new object", "count 0 = 0", "count 1 = 0", "count 2 = 0", "count 3 = 0", "count 4 = 0", "count 5 = 0",
            "count 6 = 3", "count 7 = 0", "count 8 = 0", "count 9 = 0", "seed 9 = 1", "seed 1 = 9", "fault = -1",
            "node 0 0" + NO_INDEX, "group 0" + NO_INDEX, "message 0 0" + NO_INDEX, "event 0 0" + NO_INDEX,
            "ring = -1", "slowest = -1", "line 0 = -1", "log 0 0 = -1", "back = false", "ticks 3 = 0", "count 4 = 3");
    }

    private static void tape(Script s) {
        String[] rows = new String[24];
        for (int k = 1; k <= 20; k++) {
            rows[k - 1] = "feed 1 2 3 4 5 = " + 20 * k;
        }
        rows[20] = "feed 1 2 3 4 5 = -1";
        rows[21] = "end 400 = true";
        rows[22] = "end 381 = true";
        rows[23] = "feed 0 0 0 0 0 = -1";
        s.run("2 feed", rows);
        // 'node' 's 2;' 'grou' 'p 0 ' '1   ': the highest byte of each number comes first
        s.run("2 feed", "feed 1852793957 1931489851 1735552885 1881157664 824188960 = 20", "net = 1", "count 0 = 2",
            "group 0 = 3", "feed 0 0 0 0 0 = 20");
        s.run("2 feed", "feed -1 1 2 3 4 = 20", "net ! IllegalArgumentException", "fault = 0", "end 1 = false");
        s.run("3 end", "end 0 = true", "end 1 = false", "end -1 = false", "feed 1852793957 1931489851 0 0 0 = 20",
            "end 21 = false", "end -2147483648 = false", "end 7 = true", "end 8 = false", "end 7 = true", "net = 1",
            "count 0 = 2", "end 1 = false", "end 0 = true");
        s.run("3 end", "tape: nodes 3", "end 6 = true", "feed 857743392 538976288 538976288 538976288 538976288 = 26",
            "net = 1", "count 0 = 3");
    }

    private static void netAndFault(Script s) {
        s.run("4 net", "right: nodes 3;group 2 0;group 1;delay 0 2 9;jitter 5;notice 20;at 4 send 1 1;at 999 crash 2",
            "count 0 = 3", "count 1 = 2", "count 2 = 1", "count 5 = 5", "count 6 = 20", "count 7 = 2", "group 0 = 5",
            "group 1 = 2", "channel 0 2 0 = 9", "channel 2 0 0 = 1", "event 0 0 = 4", "event 1 0 = 999",
            "right: jitter 0 ; notice 0", "count 5 = 0", "count 6 = 0", "right:   ", "count 2 = 3", "net = 4");
        s.run("4 without blanks", "right: nodes4;group0 1;delay1 0 7;at2send0 0;at3crash1;jitter1;notice02",
            "count 0 = 4", "group 0 = 3", "channel 1 0 0 = 7", "event 0 0 = 2", "event 1 1 = 1", "count 5 = 1", "count 6 = 2");
        s.run("4 with blanks", "right:    nodes   006   ;  group   5   0   ;  notice   007   ", "count 0 = 6",
            "group 0 = 33", "count 6 = 7");
        s.run("4 nothing of a wrong text stays", "right: nodes 3;group 0 1",
            "wrong: group 2;delay 0 1 5;jitter 2;notice 9;at 5 send 0 0;at 6 crash 1;foo @ 65",
            "count 1 = 1", "count 2 = 1", "count 5 = 0", "count 6 = 3", "count 7 = 0", "channel 0 1 0 = 1",
            "right: jitter 2", "count 5 = 2", "fault = -1", "end 1 = false");
        s.run("4 nodes of a wrong text", "wrong: nodes 3;foo @ 8", "count 0 = 0", "node 0 0" + NO_INDEX, "right: nodes 2");
        s.run("4 the TAPE is used up", "wrong: foo @ 0", "end 1 = false", "net = 1", "fault = -1");
    }

    private static void wrongTexts(Script s) {
        s.run("5 fault without NODES", "fault = -1", "wrong: nodes @ 5", "wrong: nodes  @ 6", "wrong: nodes 3 4 @ 8",
            "wrong: nodes 0003 @ 6", "wrong: Nodes 3 @ 0", "wrong: ; @ 0", "wrong:  ; @ 1", "wrong: nodes 3; @ 8",
            "wrong: nodes 3;  @ 9", "wrong: nodes 3;; @ 8", "wrong: nodes 3,group 0 @ 7", "wrong: nodes 0 @ 6",
            "wrong: nodes 7 @ 6", "wrong: nodes -1 @ 6", "wrong: nodes x @ 6", "wrong: nodes; @ 5", "wrong: 5 @ 0",
            "wrong: nodesx 3 @ 0", "wrong: nodesz 3 @ 0", "wrong: nodesa 3 @ 0", "wrong: xodes 3 @ 0", "wrong: nodex 3 @ 0",
            "wrong: nodes` 3 @ 5", "wrong: nodes{ 3 @ 5", "wrong: nodes / @ 6", "wrong: nodes : @ 6", "wrong: node 3 @ 0", "wrong: nodes 3x @ 7", "wrong: nodes 3\t @ 7",
            "wrong: nodes 3\u00e9 @ 7", "wrong: jitter 6 @ 7", "wrong: notice 21 @ 7", "wrong: jitter @ 6",
            "wrong: notice @ 6", "wrong: group 0 @ 6", "wrong: group x @ 6", "wrong: delay 0 0 1 @ 6",
            "wrong: at 0 crash 0 @ 11", "wrong: at 0 send 0 0 @ 10", "wrong: notice 1;nodes 3 @ 9",
            "wrong: nodes 3;nodes 3 @ 8", "count 2 = 0", "right: jitter 3;notice 4", "right: nodes 1", "wrong: nodes 1 @ 0");
        s.run("5 fault of a group", "right: nodes 2", "wrong: group @ 5", "wrong: group 2 @ 6", "wrong: group 1 1 @ 8",
            "wrong: group 0 1 0 @ 10", "wrong: group 0 1 2 @ 10", "wrong: group 0 x @ 8", "wrong: group 0,1 @ 7",
            "wrong: group 0 0000 @ 8", "wrong: group 01 1 @ 9", "right: group 1 000", "group 0 = 3");
        s.run("5 fault of a delay", "right: nodes 2", "wrong: delay @ 5", "wrong: delay 2 0 1 @ 6", "wrong: delay 0 2 1 @ 8",
            "wrong: delay 0 1 0 @ 10", "wrong: delay 0 1 10 @ 10", "wrong: delay 0 1 @ 9", "wrong: delay 0 1 2 3 @ 12",
            "wrong: delay 2 9 99 @ 6", "right: delay 1 1 9", "channel 1 1 0 = 9");
        s.run("5 fault of an event", "right: nodes 2", "wrong: at 5 send 0 0 @ 12", "wrong: at 5 send 2 0 @ 10",
            "wrong: at 5 crash 2 @ 11", "wrong: at 5 @ 4", "wrong: at 5 6 @ 5", "wrong: at crash 0 @ 3",
            "wrong: at 5 crashes 0 @ 5", "wrong: at 5 group 0 @ 5", "wrong: at 1000 crash 0 @ 3", "wrong: at 5 crash @ 10",
            "wrong: at 5 send 0 @ 11", "wrong: at 5 crash 0 1 @ 13", "wrong: at 5 send 0 0;group 0 @ 12",
            "right: group 0;at 5 send 0 0", "wrong: at 5 send 0 1 @ 12", "ticks 2", "wrong: at 1 crash 0 @ 3",
            "right: at 2 crash 0", "right: at 999 crash 1");
    }

    private static void tooMany(Script s) {
        s.run("4 LINES", "right: " + "jitter 1;".repeat(13) + "jitter 1", "wrong: " + "jitter 1;".repeat(14) + "jitter 1 @ 126",
            "wrong: " + "jitter 1;".repeat(14) + " foo @ 127", "wrong: " + "jitter 1;".repeat(14) + " @ 126");
        s.run("4 GROUPS", "right: nodes 1" + ";group 0".repeat(6), "count 1 = 6", "wrong: group 0 @ 0", "wrong: jitter 1; group 7 @ 10");
        s.run("4 GROUPS of one text", "wrong: nodes 1" + ";group 0".repeat(7) + " @ 56");
        s.run("4 EVENTS", "right: nodes 1" + ";at 1 crash 0".repeat(7), "wrong: at 1 crash 0;at 1 crash 0 @ 13",
            "right: at 1 crash 0", "count 7 = 8", "wrong:  at 0 @ 1", "ticks 2", "count 7 = 0", "right: at 2 crash 0");
        String[] rows = new String[22];
        for (int k = 0; k < 12; k++) {
            rows[k] = k == 0 ? "right: nodes 2" : "right: notice " + k;
        }
        rows[12] = "wrong: foo @ 0";
        rows[13] = "tape: notice 15";
        rows[14] = "net ! UnsupportedOperationException";
        rows[15] = "fault = -1";
        rows[16] = "end 1 = false";
        rows[17] = "count 6 = 11";
        rows[18] = "count 2 = 12";
        rows[19] = "net ! UnsupportedOperationException";
        rows[20] = "wrong:  jitter 6 @ 8";
        rows[21] = "count 2 = 12";
        s.run("4 texts", rows);
    }
}
