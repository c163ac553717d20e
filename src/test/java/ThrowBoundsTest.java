/** The paragraph ahead of promise 1: which of several exceptions is thrown, and that a call that throws changes nothing but the TAPE. */
public final class ThrowBoundsTest {
    private static final String NO_INDEX = " ! IndexOutOfBoundsException";
    private static final String NO_WHAT = " ! NoSuchElementException";
    private static final String NO_STATE = " ! IllegalStateException";
    private static final String NO_ARGUMENT = " ! IllegalArgumentException";
    private static final String NO_TEXT = " ! UnsupportedOperationException";
    /** 3 NODES, of which 2 is DOWN, 2 GROUPS, 4 MESSAGES, an IMAGE of another state, and a text on the TAPE. */
    private static final String[] NET = {
        "right: nodes 3;group 0 1 2;group 0 1;delay 0 1 2;jitter 2;notice 4;at 50 send 0 1;at 51 crash 1", "wrong:  foo @ 1", "send 0 0", "hold 1 0 true", "ticks 2", "image", "send 1 1", "crash 2", "hold 0 0 true",
        "ticks 3", "send 0 1", "seed 1234", "hold 1 0 false", "ticks 4", "send 1 0", "ticks 1", "tape: notice 9;jitter 1",
    };

    private ThrowBoundsTest() {
    }

    public static void main(String[] args) {
        Script s = new Script();
        firstOfSeveral(s);
        noIndexChangesNothing(s);
        restChangesNothing(s);
        refusedChangesNothing(s);
        textsChangeTheTapeAlone(s);
        s.finish();
    }

    private static void firstOfSeveral(Script s) {
        s.run("net: wrong, and there are 12", Script.join(Script.times(12, "net"), "tape: foo", "net" + NO_ARGUMENT, "fault = 0", "net" + NO_TEXT));
        s.run("no NODE, and another what", Script.join(NET, "node 3 6" + NO_INDEX, "node -1 -1" + NO_INDEX, "node 2 6" + NO_WHAT, "those 3 0" + NO_INDEX, "those -1 4" + NO_INDEX, "those 2 0" + NO_WHAT));
        s.run("no MESSAGE, and another what", Script.join(NET, "message 4 5" + NO_INDEX, "message -1 -1" + NO_INDEX, "message 3 5" + NO_WHAT));
        s.run("no NODE or no MESSAGE, and another what", Script.join(NET, "has 3 0 4" + NO_INDEX, "has 0 4 4" + NO_INDEX, "has 3 4 4" + NO_INDEX, "has 2 3 4" + NO_WHAT, "has 2 3 -1" + NO_WHAT));
        s.run("no CHANNEL, and another what", Script.join(NET, "channel 3 0 4" + NO_INDEX, "channel 0 3 4" + NO_INDEX, "channel -1 3 -1" + NO_INDEX, "channel 2 2 4" + NO_WHAT));
        s.run("no PACKET, and another what", Script.join(NET, "packet 2 2 0 5" + NO_INDEX, "packet 3 0 0 5" + NO_INDEX, "packet 0 3 0 5" + NO_INDEX, "packet 0 1 -1 -1" + NO_INDEX, "packet 0 1 99 5" + NO_INDEX,
            "packet 1 1 0 0", "packet 1 1 0 5" + NO_WHAT, "packet 1 1 0 -1" + NO_WHAT));
        s.run("no GATHER, and another what", Script.join(NET, "gather 3 0 4" + NO_INDEX, "gather 0 4 4" + NO_INDEX, "gather 2 0 4" + NO_STATE, "gather 2 0 0" + NO_STATE, "gather 1 3 4" + NO_WHAT, "gather 1 3 -1" + NO_WHAT));
        s.run("no EVENT, and another what", Script.join(NET, "event 2 4" + NO_INDEX, "event -1 -1" + NO_INDEX, "event 1 4" + NO_WHAT));
        s.run("no row of THE LOG, and another what", Script.join(NET, "log 99 4" + NO_WHAT, "log -1 -1" + NO_WHAT, "log 99 0 = -1"));
        s.run("no GROUP, and it is DOWN", Script.join(NET, "send 2 2" + NO_INDEX, "send 2 -1" + NO_INDEX, "send 3 0" + NO_INDEX, "send 2 0" + NO_STATE));
        s.run("no GROUP, and there are 20", Script.join(NET, Script.join(Script.times(16, "send 0 1"), "count 3 = 20", "send 0 2" + NO_INDEX, "send 3 0" + NO_INDEX, "send 0 1" + NO_STATE)));
        s.run("there is none, and both are one", Script.join(NET, "ahead 4 4" + NO_INDEX, "ahead -1 -1" + NO_INDEX, "ahead 3 3" + NO_ARGUMENT, "first 4 4" + NO_INDEX, "first -1 -1" + NO_INDEX, "first 0 0" + NO_ARGUMENT,
            "parted 3 3" + NO_INDEX, "parted -1 -1" + NO_INDEX, "parted 2 2" + NO_ARGUMENT, "knot 2 2" + NO_INDEX, "knot -1 -1" + NO_INDEX, "knot 1 1" + NO_ARGUMENT));
        s.run("there is nothing at all", "node 0 9" + NO_INDEX, "group 0" + NO_INDEX, "message 0 9" + NO_INDEX, "has 0 0 9" + NO_INDEX, "delivered 0 0" + NO_INDEX, "channel 0 0 9" + NO_INDEX,
            "packet 0 0 0 9" + NO_INDEX, "gather 0 0 9" + NO_INDEX, "send 0 0" + NO_INDEX, "crash 0" + NO_INDEX, "hold 0 0 true" + NO_INDEX, "due 0 0" + NO_INDEX, "block 0 0" + NO_INDEX, "waits 0" + NO_INDEX,
            "ahead 0 0" + NO_INDEX, "after 0 0" + NO_INDEX, "outside 0" + NO_INDEX, "parted 0 0" + NO_INDEX, "when 0 0" + NO_INDEX, "chain 0 0 0" + NO_INDEX, "late 0" + NO_INDEX, "first 0 0" + NO_INDEX,
            "lag 0" + NO_INDEX, "takes 0" + NO_INDEX, "knot 0 0" + NO_INDEX, "spared 0" + NO_INDEX, "those 0 9" + NO_INDEX, "event 0 9" + NO_INDEX, "log 0 9" + NO_WHAT);
    }

    private static void noIndexChangesNothing(Script s) {
        s.changesNothing("IndexOutOfBoundsException", NET, "node 3 0" + NO_INDEX, "group 2" + NO_INDEX, "message 4 0" + NO_INDEX, "has 3 0 0" + NO_INDEX, "has 0 4 0" + NO_INDEX, "delivered 3 0" + NO_INDEX,
            "channel 3 0 0" + NO_INDEX, "packet 0 3 0 0" + NO_INDEX, "packet 0 0 99 0" + NO_INDEX, "gather 0 4 0" + NO_INDEX, "send 3 0" + NO_INDEX, "send 0 2" + NO_INDEX, "send -1 0" + NO_INDEX, "crash 3" + NO_INDEX,
            "crash -1" + NO_INDEX, "hold 3 0 true" + NO_INDEX, "hold 0 3 true" + NO_INDEX, "hold -1 0 false" + NO_INDEX, "due 3 0" + NO_INDEX, "due 0 4" + NO_INDEX, "block 3 0" + NO_INDEX, "waits 4" + NO_INDEX,
            "ahead 0 4" + NO_INDEX, "after 3 0" + NO_INDEX, "after 0 4" + NO_INDEX, "outside 4" + NO_INDEX, "parted 0 3" + NO_INDEX, "when 3 0" + NO_INDEX, "chain 3 0 0" + NO_INDEX, "late 4" + NO_INDEX,
            "first 0 4" + NO_INDEX, "lag 3" + NO_INDEX, "takes 3" + NO_INDEX, "knot 0 2" + NO_INDEX, "spared 4" + NO_INDEX, "those 3 1" + NO_INDEX, "event 2 0" + NO_INDEX);
    }

    private static void restChangesNothing(Script s) {
        s.changesNothing("IllegalArgumentException", NET, "ticks 0" + NO_ARGUMENT, "ticks 61" + NO_ARGUMENT, "ticks -1" + NO_ARGUMENT, "ticks 2147483647" + NO_ARGUMENT, "ahead 0 0" + NO_ARGUMENT,
            "parted 1 1" + NO_ARGUMENT, "first 1 1" + NO_ARGUMENT, "knot 0 0" + NO_ARGUMENT);
        s.changesNothing("IllegalStateException", NET, "gather 2 0 0" + NO_STATE, "send 2 0" + NO_STATE, "crash 2" + NO_STATE);
        s.changesNothing("IllegalStateException of 20", Script.join(NET, Script.times(16, "send 0 1")), "send 0 1" + NO_STATE, "send 2 1" + NO_STATE);
        s.changesNothing("NoSuchElementException", NET, "node 0 6" + NO_WHAT, "message 0 5" + NO_WHAT, "has 0 0 4" + NO_WHAT, "channel 0 1 4" + NO_WHAT, "packet 1 1 0 5" + NO_WHAT, "gather 1 3 4" + NO_WHAT,
            "those 0 0" + NO_WHAT, "those 0 4" + NO_WHAT, "event 0 4" + NO_WHAT, "log 0 4" + NO_WHAT);
    }

    /** No exception, and yet nothing happens. */
    private static void refusedChangesNothing(Script s) {
        s.changesNothing("nothing happens", NET, "end -1 = false", "end 18 = false", "end 2147483647 = false", "hold 0 0 true = false", "hold 1 0 false = false", "count 10 = -1", "line -1 = -1", "delivered 0 -1 = -1");
        String[] none = {"right: nodes 2;group 0 1", "send 0 0", "ticks 2", "tape: notice 9"};
        s.changesNothing("nothing happens, if none was kept", none, "back = false");
        s.changesNothing("none come, if it would have more", Script.join(none, "tape: notice 9" + " ".repeat(380)), "feed 0 0 0 0 0 = -1");
    }

    private static void textsChangeTheTapeAlone(Script s) {
        String[] before = java.util.Arrays.copyOf(NET, NET.length - 1);
        s.changesNothing("a wrong text", before, "wrong: notice 21 @ 7", "wrong: notice 9;jitter @ 15", "wrong: group 2;at 50 crash 0;delay 0 0 10 @ 32", "wrong: nodes 3 @ 0");
        s.changesNothing("a wrong text on the TAPE", Script.join(before, "tape: notice 9;jitter 6"), "net" + NO_ARGUMENT);
        String[] twelve = Script.join(Script.times(11, "right: notice #"), Script.join(new String[] {"right: nodes 2;group 0 1;at 9 crash 1"}, "send 0 0", "image", "ticks 2"));
        s.changesNothing("the 13th text", Script.join(twelve, "tape: group 0;delay 0 1 5;jitter 2;notice 19;at 2 crash 0"), "net" + NO_TEXT);
        s.changesNothing("the 13th text, which is wrong", Script.join(twelve, "tape: group 0;foo"), "net" + NO_ARGUMENT);
        s.changesNothing("the 13th text, which is empty", twelve, "net" + NO_TEXT);
    }
}
