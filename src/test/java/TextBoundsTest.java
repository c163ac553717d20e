/** The bounds that the text of THE NET names: texts, LINES, numbers, blanks, words, and each kind of first wrong byte. */
public final class TextBoundsTest {
    private static final String NO_TEXT = " ! UnsupportedOperationException";

    private TextBoundsTest() {
    }

    public static void main(String[] args) {
        Script s = new Script();
        texts(s);
        lines(s);
        nodesFirst(s);
        digits(s);
        numbersOfEach(s);
        times(s);
        withoutNodes(s);
        words(s);
        blanks(s);
        moreMustCome(s);
        tooMuch(s);
        theFirstOfTwo(s);
        nothingStays(s);
        s.finish();
    }

    private static void texts(Script s) {
        String[] eleven = Script.join(new String[] {"right: nodes 2"}, Script.times(10, "right: notice #"));
        s.run("at most 12 texts: 11", Script.join(eleven, "count 2 = 11", "count 6 = 9"));
        s.run("at most 12 texts: the 12th", Script.join(eleven, "right: notice 12", "count 2 = 12", "count 6 = 12"));
        s.run("at most 12 texts: the 13th", Script.join(eleven, "right: notice 12", "tape: notice 13", "net" + NO_TEXT, "count 2 = 12", "count 6 = 12"));
        s.run("a wrong text is none of the 12", Script.join(eleven, "wrong: notice 21 @ 7", "wrong: foo @ 0", "count 2 = 11", "right: notice 12", "count 2 = 12"));
        s.run("an empty text is one of the 12", Script.join(Script.times(12, "right: "), "count 2 = 12", "net" + NO_TEXT, "count 2 = 12"));
        s.run("a wrong text behind 12 is wrong", Script.join(eleven, "right: notice 12", "wrong: notice 21 @ 7", "fault = 7"));
        s.run("12 texts of THE IMAGE", Script.join(eleven, "image", "right: ", "net" + NO_TEXT, "back = true", "count 2 = 11", "net = 12", "net" + NO_TEXT));
    }

    private static void lines(Script s) {
        String thirteen = "jitter 1;".repeat(13);
        s.run("at most 14 LINES: 1", "right: jitter 2", "count 5 = 2");
        s.run("at most 14 LINES: 13", "right: " + "jitter 1;".repeat(12) + "jitter 2", "count 5 = 2");
        s.run("at most 14 LINES: 14", "right: " + thirteen + "jitter 2", "count 5 = 2");
        s.run("at most 14 LINES: 15", "wrong: " + thirteen + "jitter 2;notice 9 @ 126", "count 5 = 0", "count 6 = 3", "count 2 = 0");
        s.run("the 15th LINE behind blanks", "wrong: " + thirteen + "jitter 2 ;  notice 9 @ 129");
        s.run("the 15th LINE, though it is wrong itself", "wrong: " + thirteen + "jitter 2;notice 99 @ 126", "wrong: " + thirteen + "jitter 2;nodes 2 @ 126",
            "wrong: " + thirteen + "jitter 2;x @ 126", "wrong: " + thirteen + "jitter 2;7 @ 126", "wrong: " + thirteen + "jitter 2;; @ 126");
        s.run("14 LINES, and more must come", "wrong: " + thirteen + "jitter 2; @ 126", "wrong: " + thirteen + "jitter 2;  @ 127", "wrong: " + thirteen + "jitter @ 123");
        s.run("14 LINES of each of several texts", "right: " + thirteen + "jitter 2", "right: " + thirteen + "jitter 3", "count 5 = 3", "count 2 = 2");
        s.run("a LINE that is empty", "wrong: ; @ 0", "wrong: jitter 1;;jitter 1 @ 9", "wrong: ;jitter 1 @ 0", "wrong: jitter 1; ;jitter 1 @ 10", "wrong: jitter 1; @ 9");
    }

    private static void nodesFirst(Script s) {
        s.run("nodes as the first LINE", "right: nodes 2;jitter 1", "count 0 = 2");
        s.run("nodes as the second LINE", "wrong: jitter 1;nodes 2 @ 9", "count 0 = 0", "wrong: jitter 1; nodes 2 @ 10", "right: nodes 2");
        s.run("nodes as the first and the second LINE", "wrong: nodes 2;nodes 2 @ 8", "count 0 = 0", "wrong: nodes 2 ; nodes @ 10");
        s.run("nodes in a later text", "right: jitter 1", "right: ", "right: nodes 2", "count 0 = 2", "count 2 = 3");
        s.run("nodes behind a wrong text", "wrong: nodes 2;foo @ 8", "right: nodes 3", "count 0 = 3");
        s.run("nodes where there are NODES", "right: nodes 2", "wrong: nodes 2 @ 0", "wrong:   nodes 3 @ 2", "wrong: nodes @ 0", "wrong: nodes 9 @ 0", "count 0 = 2");
        s.run("nodes where there is one NODE", "right: nodes 1", "wrong: nodes 1 @ 0", "wrong: nodes 2 @ 0", "count 0 = 1");
        s.run("nodes behind going back", "image", "right: nodes 2", "back = true", "right: nodes 5", "count 0 = 5");
    }

    private static void digits(Script s) {
        s.run("numbers of 1 to 3 digits", "right: notice 7", "count 6 = 7", "right: notice 08", "count 6 = 8", "right: notice 009", "count 6 = 9",
            "wrong: notice 0010 @ 7", "wrong: notice 00000000000000010 @ 7", "wrong: notice  @ 7", "count 6 = 9");
        s.run("no digit is below 0 or above 9", "wrong: notice / @ 7", "wrong: notice : @ 7", "wrong: notice 1/ @ 8", "wrong: notice 1: @ 8", "right: notice 0", "right: notice 9");
        s.run("3 digits of each number", "right: nodes 002;group 000 001;delay 000 001 007;jitter 001;notice 005;at 004 send 001 000;at 014 crash 000",
            "group 0 = 3", "channel 0 1 0 = 7", "count 5 = 1", "count 6 = 5", "event 0 0 = 4", "event 0 2 = 1", "event 0 3 = 0", "event 1 0 = 14", "event 1 2 = 0");
        s.run("4 digits of nodes", "wrong: nodes 0002 @ 6");
        s.run("4 digits of each number", "right: nodes 2;group 0 1", "wrong: group 0000 @ 6", "wrong: group 0 0001 @ 8", "wrong: delay 0000 1 2 @ 6",
            "wrong: delay 0 0001 2 @ 8", "wrong: delay 0 1 0002 @ 10", "wrong: jitter 0001 @ 7", "wrong: notice 0001 @ 7", "wrong: at 0001 send 0 0 @ 3",
            "wrong: at 1 send 0000 0 @ 10", "wrong: at 1 send 0 0000 @ 12", "wrong: at 0001 crash 0 @ 3", "wrong: at 1 crash 0000 @ 11");
        s.run("a number that goes round is none", "wrong: notice 4294967301 @ 7", "wrong: notice 18446744073709551621 @ 7", "wrong: nodes 4294967297 @ 6");
    }

    private static void numbersOfEach(Script s) {
        s.run("a group tells NODES", "right: nodes 3", "wrong: group 3 @ 6", "wrong: group 0 3 @ 8", "wrong: group 2 1 999 @ 10", "right: group 2", "right: group 0 2", "group 1 = 5");
        s.run("a group: unlike NODES", "right: nodes 6", "wrong: group 0 0 @ 8", "wrong: group 5 4 3 5 @ 12", "wrong: group 0 00 @ 8", "wrong: group 0 1 2 3 4 5 0 @ 18",
            "wrong: group 0 1 2 3 4 5 6 @ 18", "right: group 0 1 2 3 4 5", "group 0 = 63");
        s.run("a delay tells NODES", "right: nodes 3", "wrong: delay 3 0 1 @ 6", "wrong: delay 0 3 1 @ 8", "right: delay 2 2 2", "right: delay 0 2 3",
            "right: delay 2 0 4", "channel 2 2 0 = 2", "channel 0 2 0 = 3", "channel 2 0 0 = 4");
        s.run("a send tells a NODE, a GROUP", "right: nodes 3;group 0;group 1", "wrong: at 1 send 3 0 @ 10", "wrong: at 1 send 0 2 @ 12", "right: at 1 send 2 1",
            "right: at 1 send 0 0", "event 0 2 = 2", "event 0 3 = 1", "event 1 2 = 0", "event 1 3 = 0");
        s.run("a crash tells a NODE", "right: nodes 3", "wrong: at 1 crash 3 @ 11", "right: at 1 crash 2", "right: at 1 crash 0", "event 0 2 = 2", "event 1 2 = 0");
        s.run("a GROUP that there is by then", "right: nodes 2", "wrong: at 1 send 0 0 @ 12", "wrong: at 1 send 0 0;group 0 @ 12", "wrong: group 0;at 1 send 0 1;group 1 @ 20",
            "right: group 0;at 1 send 0 0;group 1;at 1 send 0 1", "event 1 3 = 1");
        s.run("a NODE that there is by then", "right: nodes 2;group 1;delay 1 1 2;at 1 crash 1", "count 7 = 1");
    }

    private static void times(Script s) {
        s.run("the time of an EVENT: TICK at least, in TICK 0", "right: nodes 2", "right: at 0 crash 0", "event 0 0 = 0");
        s.run("the time of an EVENT: TICK at least, one less", "right: nodes 2", "ticks 7", "wrong: at 6 crash 0 @ 3", "wrong: at 0 crash 0 @ 3", "count 7 = 0");
        s.run("the time of an EVENT: TICK at least, that one", "right: nodes 2", "ticks 7", "right: at 7 crash 0", "right: at 8 crash 1", "event 0 0 = 7", "event 1 0 = 8");
        s.run("the time of an EVENT is of 3 digits", "right: nodes 2;group 0", "right: at 999 send 0 0", "event 0 0 = 999", "wrong: at 1000 crash 0 @ 3");
        String[] far = Script.join(new String[] {"right: nodes 2;at 999 crash 1"}, Script.times(16, "ticks 60"));
        s.run("the latest time there is", Script.join(far, "ticks 39", "count 4 = 999", "right: at 999 crash 0", "node 1 0 = 1", "ticks 1", "node 0 0 = 0", "node 1 0 = 0",
            "log 0 0 = 999", "log 0 1 = 0", "log 1 1 = 1"));
        s.run("beyond 999 no time is right", Script.join(far, "ticks 40", "count 4 = 1000", "wrong: at 999 crash 0 @ 3", "wrong: at 1000 crash 0 @ 3"));
    }

    private static void withoutNodes(Script s) {
        s.run("without NODES any NODE is wrong", "wrong: group 0 @ 6", "wrong: delay 0 0 1 @ 6", "wrong: at 0 crash 0 @ 11", "wrong: at 0 send 0 0 @ 10", "count 2 = 0");
        s.run("without NODES the rest is right", "right: jitter 1;notice 4", "count 5 = 1", "count 6 = 4", "ticks 1 = 0", "count 4 = 1");
    }

    private static void words(Script s) {
        s.run("words are as long as a to z go on", "right: nodes2;group0 1;delay0 1 5;jitter2;notice7;at4send0 0;at5crash1", "count 0 = 2", "count 7 = 2");
        s.run("a letter too few, and too many", "wrong: node 2 @ 0", "wrong: nodess 2 @ 0", "wrong: nodesa 2 @ 0", "wrong: nodesz 2 @ 0", "wrong: jitte 1 @ 0",
            "wrong: jittera 1 @ 0", "wrong: notic 1 @ 0", "wrong: noticenotice 1 @ 0");
        s.run("each letter counts", "wrong: xodes 2 @ 0", "wrong: nodex 2 @ 0", "wrong: noxes 2 @ 0", "wrong: xitter 1 @ 0", "wrong: jittex 1 @ 0", "wrong: xotice 1 @ 0", "wrong: noticx 1 @ 0", "wrong: jotter 1 @ 0");
        s.run("a to z end there", "wrong: nodes` @ 5", "wrong: nodes{ @ 5", "wrong: nodesA2 @ 5", "wrong: nodes_2 @ 5", "wrong: `nodes 2 @ 0", "wrong: {nodes 2 @ 0");
        s.run("a word that is none", "wrong: a @ 0", "wrong: z @ 0", "wrong: send 0 0 @ 0", "wrong: crash 0 @ 0", "wrong: jitter 1;jetter 1 @ 9", "wrong: NODES 2 @ 0",
            "wrong: Nodes 2 @ 0");
        s.run("a word of an EVENT that is none", "right: nodes 2;group 0", "wrong: at 5 sent 0 0 @ 5", "wrong: at 5 sen 0 0 @ 5", "wrong: at 5 sends 0 0 @ 5",
            "wrong: at 5 cras 0 @ 5", "wrong: at 5 crashs 0 @ 5", "wrong: at 5 at 5 crash 0 @ 5", "wrong: at 5 nodes 0 @ 5", "wrong: a 5 crash 0 @ 0",
            "wrong: att 5 crash 0 @ 0", "wrong: at 5 Crash 0 @ 5", "wrong: at 5;crash 0 @ 4");
        s.run("no word where a number is due", "wrong: jitter jitter @ 7", "wrong: jitter x @ 7", "wrong: nodes two @ 6");
        s.run("no number where a word is due", "wrong: 5 @ 0", "wrong: 5 nodes @ 0", "wrong: jitter 1;5 @ 9", "wrong: jitter 1 5 @ 9", "wrong: jitter 1 jitter 2 @ 9");
    }

    private static void blanks(Script s) {
        s.run("a text that is empty", "net = 1", "fault = -1", "count 2 = 1", "count 0 = 0", "net = 2");
        s.run("a text of blanks alone", "right:  ", "right:   ", "right: " + " ".repeat(400), "count 2 = 3", "fault = -1", "count 0 = 0");
        s.run("blanks between all, ahead and behind", "right:   nodes  2  ;  group  1  0  ;  delay  0  1  5  ;  jitter  2  ;  notice  7  ;  at  4  send  0  0  ;  at  5  crash  1  ",
            "group 0 = 3", "channel 0 1 0 = 5", "count 5 = 2", "count 6 = 7", "event 0 0 = 4", "event 1 0 = 5");
        s.run("a blank within a word, a number", "wrong: no des 2 @ 0", "wrong: notice 1 5 @ 9", "wrong: nodes 2;gro up 0 @ 8");
        s.run("a blank where it is not needed", "right: nodes 2;group 0 1", "right: delay 01 1 3", "channel 1 1 0 = 3", "wrong: delay 011 3 @ 6", "right: group 01", "group 1 = 2");
        s.run("other bytes are no blanks", "wrong: \0nodes 2 @ 0", "wrong: \tnodes 2 @ 0", "wrong: \nnodes 2 @ 0", "wrong: \rnodes 2 @ 0", "wrong: \u001fnodes 2 @ 0",
            "wrong: !nodes 2 @ 0", "wrong: \u00a0nodes 2 @ 0", "wrong: \u00ffnodes 2 @ 0", "wrong: nodes\t2 @ 5", "wrong: nodes 2\t @ 7", "wrong: nodes 2\0 @ 7",
            "wrong: nodes 2\n @ 7", "wrong: nodes 2 \u00a0 @ 8", "wrong: nodes \u00b2 @ 6", "wrong: \u00ee\u00ef\u00e4\u00e5\u00f3 2 @ 0", "wrong: nodes 2\u00bbjitter 1 @ 7");
        s.run("what was cut off the TAPE is not read", "right: nodes 2", "tape: group 01", "end 7 = true", "net = 2", "group 0 = 1", "tape: jitter 45", "end 8 = true", "net = 3", "count 5 = 4", "tape: notice 1;", "end 8 = true",
            "net = 4", "tape: notices", "end 6 = true", "net ! IllegalArgumentException", "fault = 6", "tape: notice  2", "end 7 = true", "net ! IllegalArgumentException", "fault = 7");
        s.run("400 bytes with a number at their end", "right: nodes 2", "right: " + " ".repeat(391) + "group 0 1", "group 0 = 3", "right: " + " ".repeat(393) + "group 0", "group 1 = 1", "wrong: " + " ".repeat(396) + "noti @ 396");
        s.run("400 bytes", "right: nodes 2" + " ".repeat(393), "count 0 = 2", "wrong: jitter 2" + " ".repeat(391) + "; @ 400", "wrong: jitter 2" + " ".repeat(391) + "x @ 399",
            "right: " + " ".repeat(392) + "jitter 2", "wrong: " + " ".repeat(394) + "jitter @ 400");
    }

    private static void moreMustCome(Script s) {
        s.run("more must come of nodes", "wrong: nodes @ 5", "wrong: nodes  @ 6", "wrong: nodes   @ 7", "wrong: nodes 2; @ 8", "wrong: nodes 2;  @ 9");
        s.run("more must come of a group", "right: nodes 3", "wrong: group @ 5", "wrong: group  @ 6", "wrong: group 0; @ 8", "wrong: group; @ 5");
        s.run("more must come of a delay", "right: nodes 3", "wrong: delay @ 5", "wrong: delay 0 @ 7", "wrong: delay 0  @ 8", "wrong: delay 0 1 @ 9", "wrong: delay 0 1  @ 10",
            "wrong: delay 0 1; @ 9", "wrong: delay 0; @ 7", "wrong: delay; @ 5");
        s.run("more must come of jitter, notice", "wrong: jitter @ 6", "wrong: jitter  @ 7", "wrong: notice @ 6", "wrong: notice  @ 7", "wrong: jitter;notice 1 @ 6", "wrong: notice;jitter 1 @ 6");
        s.run("more must come of an EVENT", "right: nodes 3;group 0", "wrong: at @ 2", "wrong: at  @ 3", "wrong: at 5 @ 4", "wrong: at 5  @ 5", "wrong: at 5 send @ 9",
            "wrong: at 5 send  @ 10", "wrong: at 5 send 0 @ 11", "wrong: at 5 send 0  @ 12", "wrong: at 5 crash @ 10", "wrong: at 5 crash  @ 11", "wrong: at 5 send 0; @ 11",
            "wrong: at 5 crash; @ 10", "wrong: at; @ 2", "wrong: at 5; @ 4");
    }

    private static void tooMuch(Script s) {
        s.run("a number too many", "wrong: nodes 2 3 @ 8", "right: nodes 3;group 0", "wrong: delay 0 1 2 3 @ 12", "wrong: jitter 1 2 @ 9", "wrong: notice 1 2 @ 9",
            "wrong: at 5 send 0 0 0 @ 14", "wrong: at 5 crash 0 0 @ 13");
        s.run("a GROUP too many, of its own text", "wrong: nodes 1" + ";group 0".repeat(7) + " @ 56", "right: nodes 1" + ";group 0".repeat(6));
        s.run("a GROUP too many, of a later text", "right: nodes 1" + ";group 0".repeat(6), "wrong: jitter 1; group 0 @ 10", "wrong: group @ 0", "wrong: group 9 @ 0", "count 5 = 0");
        s.run("an EVENT too many, of a later text", "right: nodes 1" + ";at 1 crash 0".repeat(8), "wrong: jitter 1; at 1 crash 0 @ 10", "wrong: at @ 0", "wrong: at 1 foo @ 0",
            "wrong: at 1000 crash 9 @ 0", "count 5 = 0");
    }

    private static void theFirstOfTwo(Script s) {
        s.run("the first wrong byte of several", "right: nodes 2;group 0", "wrong: delay 9 9 99 @ 6", "wrong: delay 0 9 99 @ 8", "wrong: jitter 9;foo @ 7", "wrong: foo;jitter 9 @ 0",
            "wrong: at 1000 foo 9 @ 3", "wrong: at 1 foo 9 @ 5", "wrong: at 1 send 9 9 @ 10", "wrong: group 9 9 @ 6", "wrong: group 0 0 9 @ 8", "wrong: jitter 1 x;notice 99 @ 9");
        s.run("fault is of the latest text", "wrong: jitter 9 @ 7", "wrong: foo @ 0", "fault = 0", "right: jitter 1", "fault = -1", "wrong:  foo @ 1", "net = 2", "fault = -1");
    }

    private static void nothingStays(Script s) {
        String[] run = {"right: nodes 4;group 0 1 2;group 1 3;delay 0 1 3;jitter 3;notice 2;at 36 crash 2;at 37 send 3 1", "send 0 0", "send 3 1", "hold 3 1 true", "ticks 25", "send 1 0", "crash 0", "ticks 5", "send 2 1",
            "ticks 2", "seed 5"};
        s.alike("a text that is empty changes nothing but how many there are", run, Script.join(run, "right: "), "count 2");
        s.alike("a text of blanks changes nothing but how many there are", run, Script.join(run, "right:    ", "right:  "), "count 2");
        s.alike("a text that tells what is so already", run, Script.join(run, "right: delay 0 1 3;jitter 3;notice 2"), "count 2");
        String[] before = {"right: nodes 3;group 0 1;group 2;delay 0 1 2;jitter 1;notice 4;at 9 send 0 0", "send 0 0", "image", "send 2 1", "ticks 3"};
        s.changesNothing("of a wrong text nothing stays", before, "wrong: group 0;foo @ 8", "wrong: delay 0 1 9;foo @ 12", "wrong: delay 2 2 9;delay 2 2 0 @ 22",
            "wrong: jitter 5;foo @ 9", "wrong: notice 0;foo @ 9", "wrong: at 3 send 0 1;foo @ 14", "wrong: at 3 crash 0;foo @ 13", "wrong: group 0;at 3 send 0 2;group 0 1 2 3 @ 34",
            "wrong: jitter 1;" + "group 0;".repeat(4) + "group 0 @ 41", "wrong: " + "at 3 crash 1;".repeat(7) + "at 3 crash 1 @ 91", "wrong: jitter 0;" + "notice 9;".repeat(13) + "notice 8 @ 126");
        s.changesNothing("of a wrong first text nothing stays", new String[] {"image"}, "wrong: nodes 3;group 0;foo @ 16", "wrong: nodes 6;nodes 6 @ 8", "wrong: nodes 3;delay 0 1 5; @ 20",
            "wrong: jitter 5;notice 9;group 0 @ 24");
    }
}
