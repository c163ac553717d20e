/** The bounds that the part marked ==== 2 names: PACKETS, NOTICED, HEARS, GATHERS, the TICK, DRAW and THE LOG. */
public final class TickBoundsTest {
    private static final String NO_INDEX = " ! IndexOutOfBoundsException";
    private static final String NO_STATE = " ! IllegalStateException";

    private TickBoundsTest() {
    }

    public static void main(String[] args) {
        Script s = new Script();
        packetTimes(s);
        draw(s);
        last(s);
        noticed(s);
        noneIsPutForNoticed(s);
        sends(s);
        hearsRequestAndProposal(s);
        hearsFinal(s);
        hearsTake(s);
        full(s);
        events(s);
        packetsComeInTime(s);
        goneWithDown(s);
        takesOver(s);
        handsOut(s);
        down(s);
        log(s);
        s.finish();
    }

    private static void packetTimes(Script s) {
        s.run("TICK and DELAY", "right: nodes 1;group 0;delay 0 0 9", "send 0 0", "packet 0 0 0 0 = 9", "ticks 1", "send 0 0", "packet 0 0 1 0 = 10");
        // the DRAW of the first SEED is a multiple of JITTER and 1, that of the second one less than one
        int[][] seeds = {{1, -50, -49}, {2, -41, -50}, {3, -50, -49}, {4, -46, -47}, {5, -39, -49}};
        for (int[] row : seeds) {
            s.run("JITTER " + row[0] + ", the least", "right: nodes 1;group 0;jitter " + row[0], "seed " + row[1], "send 0 0", "packet 0 0 0 0 = 1", "channel 0 0 3 = 1");
            s.run("JITTER " + row[0] + ", the most", "right: nodes 1;group 0;jitter " + row[0], "seed " + row[2], "send 0 0", "packet 0 0 0 0 = " + (1 + row[0]),
                "channel 0 0 3 = " + (1 + row[0]));
        }
        s.run("JITTER 0 does not DRAW", "right: nodes 2;group 0 1;jitter 0", "seed 77", "send 0 0", "packet 0 0 0 0 = 1", "ticks 9 = 2", "seed 1 = 77");
        s.run("JITTER above 0 DRAWS for each PACKET", "right: nodes 2;group 0 1;jitter 1", "send 0 0", "seed 1 = -1770082073");
        s.run("COST is 1 more", "right: nodes 3;group 0;group 0 1 2", "send 0 0", "message 0 2 = 1", "node 0 4 = 1", "send 0 1", "message 1 2 = 3", "message 0 2 = 1",
            "node 0 4 = 4", "ticks 2", "message 0 2 = 2", "message 1 2 = 6", "node 0 4 = 6", "node 2 4 = 1");
    }

    private static void draw(Script s) {
        String net = "right: nodes 1;group 0;jitter 5";
        s.run("SEED 1 at first", "seed 1 = 1", net, "send 0 0", "seed 0 = 1103527590");
        s.run("SEED goes round above", net, "seed 2147483647", "send 0 0", "seed 0 = 1043980748", "packet 0 0 0 0 = 6");
        s.run("SEED goes round below", net, "seed -2147483648", "send 0 0", "seed 0 = -2147471303", "packet 0 0 0 0 = 1");
        s.run("SEED below 0", net, "seed -1", "send 0 0", "seed 0 = -1103502900", "packet 0 0 0 0 = 6");
        s.run("SEED 0", net, "seed 0", "send 0 0", "seed 0 = 12345", "packet 0 0 0 0 = 1", "seed 12345 = 0", "send 0 0", "seed 0 = -740551042");
        // bit 31 is set there: with it DRAW would be 33676, and 4 behind the modulo
        s.run("bits 16 to 30: not 31", net, "seed 2", "send 0 0", "seed 0 = -2087924461", "packet 0 0 0 0 = 3");
        // 1103527590 is 16838 times 65536 and more: with bit 15 it would be another one
        s.run("bits 16 to 30: 16 is the lowest", net, "send 0 0", "packet 0 0 0 0 = 3", "seed 1 = 1103527590");
        s.run("bits 16 to 30: 30 is the highest", net, "seed 3", "send 0 0", "seed 0 = -984409216", "packet 0 0 0 0 = 6");
    }

    private static void last(Script s) {
        s.run("LAST at least", "right: nodes 1;group 0;delay 0 0 5", "send 0 0", "channel 0 0 3 = 5", "right: delay 0 0 4", "send 0 0", "packet 0 0 1 0 = 5", "channel 0 0 3 = 5",
            "ticks 1", "send 0 0", "packet 0 0 2 0 = 5", "channel 0 0 3 = 5", "ticks 1", "send 0 0", "packet 0 0 3 0 = 6", "channel 0 0 3 = 6");
        s.run("LAST at least, though nothing waits there", "right: nodes 2;group 1;delay 0 1 9;notice 20", "send 0 0", "crash 1", "ticks 1", "channel 0 1 2 = 0", "channel 0 1 3 = 9",
            "right: delay 0 1 1", "send 0 0", "packet 0 1 0 0 = 9", "channel 0 1 3 = 9");
        // DRAW 16838 and 5758: 2, then 4; of SEED 0 it is 0: LAST stays
        s.run("LAST at least, with JITTER", "right: nodes 1;group 0;jitter 5", "send 0 0", "packet 0 0 0 0 = 3", "send 0 0", "packet 0 0 1 0 = 5", "seed 0", "send 0 0", "packet 0 0 2 0 = 5");
        s.run("LAST of each CHANNEL by itself", "right: nodes 2;group 0;group 1;delay 0 0 9", "send 0 0", "send 0 1", "channel 0 0 3 = 9", "channel 0 1 3 = 1", "channel 1 0 3 = 0");
    }

    private static void noticed(Script s) {
        s.run("NOTICED with NOTICE 0", "right: nodes 2;notice 0", "node 1 5 = 0", "crash 1", "node 1 5 = 1", "ticks 1", "node 1 5 = 1");
        s.run("NOTICED with NOTICE 1", "right: nodes 2;notice 1", "crash 1", "node 1 5 = 0", "ticks 1", "node 1 5 = 1");
        s.run("NOTICED with NOTICE as at first", "right: nodes 2", "ticks 5", "crash 1", "node 1 5 = 0", "ticks 2", "node 1 5 = 0", "ticks 1", "node 1 5 = 1");
        s.run("NOTICED with NOTICE 20", "right: nodes 2;notice 20", "ticks 5", "crash 1", "ticks 19", "node 1 5 = 0", "ticks 1", "node 1 5 = 1", "ticks 60", "node 1 5 = 1");
        s.run("NOTICED of one that goes DOWN by an EVENT", "right: nodes 2;notice 2;at 4 crash 1", "ticks 5", "node 1 0 = 0", "node 1 5 = 0", "ticks 1", "node 1 5 = 1");
        s.run("one that is UP is not NOTICED", "right: nodes 2;notice 0", "ticks 60", "node 0 5 = 0", "node 1 5 = 0");
        s.run("NOTICE as it is told by then: more", "right: nodes 2;notice 0", "crash 1", "right: notice 2", "node 1 5 = 0", "ticks 1", "node 1 5 = 0", "ticks 1", "node 1 5 = 1");
        s.run("NOTICE as it is told by then: less", "right: nodes 2;notice 20", "crash 1", "ticks 2", "right: notice 3", "node 1 5 = 0", "right: notice 2", "node 1 5 = 1");
    }

    private static void noneIsPutForNoticed(Script s) {
        s.run("a REQUEST for one that is NOTICED", "right: nodes 2;group 1;notice 2", "crash 1", "send 0 0 = 0", "message 0 2 = 1", "channel 0 1 2 = 1", "ticks 1", "send 0 0 = 1",
            "message 1 2 = 1", "channel 0 1 3 = 2", "ticks 1", "right: jitter 1", "seed 9", "send 0 0 = 2", "message 2 2 = 0", "channel 0 1 2 = 0", "channel 0 1 3 = 2", "node 0 4 = 2",
            "seed 1 = 9", "message 2 4 = 1");
        s.run("a PROPOSAL for one that is not NOTICED", "right: nodes 2;group 1;notice 2", "send 0 0", "crash 0", "ticks 2", "node 1 4 = 1", "channel 1 0 3 = 2", "message 0 2 = 2");
        s.run("a PROPOSAL for one that is NOTICED", "right: nodes 2;group 1;notice 1", "send 0 0", "crash 0", "ticks 2", "has 1 0 0 = 1", "channel 1 0 3 = 0", "channel 1 1 2 = 1",
            "packet 1 1 0 1 = 3", "message 0 2 = 2");
        s.run("FINAL for one that is not NOTICED", "right: nodes 3;group 0 1 2;notice 1", "send 0 0", "ticks 2", "crash 2", "ticks 1", "packet 0 1 0 1 = 2", "channel 0 2 3 = 3", "message 0 2 = 9");
        s.run("FINAL, TAKE for one that is NOTICED", "right: nodes 3;group 0 1 2;notice 0", "send 0 0", "ticks 2", "crash 2", "ticks 1", "packet 0 1 0 1 = 2", "channel 0 2 3 = 1", "message 0 2 = 8",
            "crash 0", "ticks 1 = 1", "packet 1 1 0 1 = 3", "channel 1 0 3 = 2", "channel 1 2 3 = 0", "message 0 2 = 9", "count 8 = 1");
        s.run("a STATE for one that is NOTICED", "right: nodes 3;group 0 1;notice 1", "send 2 0", "ticks 2", "crash 2", "ticks 2", "packet 0 1 0 1 = 3", "right: notice 0", "crash 0", "ticks 1",
            "has 1 0 3 = 0", "channel 1 0 3 = 0", "packet 1 1 0 1 = 3", "log 0 1 = 1", "log 0 2 = 3");
        s.run("a STATE for one that is not NOTICED", "right: nodes 3;group 0 1;notice 1", "send 2 0", "ticks 2", "crash 2", "ticks 2", "packet 0 1 0 1 = 3", "crash 0", "ticks 1",
            "has 1 0 3 = 0", "channel 1 0 3 = 5", "channel 1 0 2 = 0", "channel 1 1 2 = 0");
    }

    private static void sends(Script s) {
        s.run("one that is DOWN does not send", "right: nodes 2;group 0", "crash 1", "send 1 0" + NO_STATE, "count 3 = 0", "send 0 0 = 0");
        // DRAW is 2, 4, 3 behind the modulo
        s.run("a REQUEST for each NODE of TO, by numbers", "right: nodes 4;group 3 0 2;jitter 5", "send 1 0", "packet 1 0 0 0 = 3", "packet 1 2 0 0 = 5", "packet 1 3 0 0 = 4", "channel 1 1 2 = 0",
            "message 0 2 = 3");
        s.run("one may send to a GROUP without it", "right: nodes 2;group 1", "send 0 0 = 0", "ticks 4 = 1", "message 0 3 = 2", "has 0 0 0 = 0", "lag 0 = 0");
        s.run("one may send to itself alone", "right: nodes 1;group 0", "send 0 0 = 0", "ticks 3 = 0", "ticks 1 = 1", "message 0 2 = 3");
    }

    private static void hearsRequestAndProposal(Script s) {
        s.run("REQUEST: CLOCK is 1 more", "right: nodes 2;group 1", "send 0 0", "send 0 0", "ticks 2", "node 1 1 = 2", "has 1 0 1 = 1", "has 1 1 1 = 2", "packet 1 0 0 3 = 1", "packet 1 0 1 3 = 2");
        // by TAKE it proposed already: CLOCK stays, no PROPOSAL is put, the LEADER stays
        s.run("REQUEST, and it has the MESSAGE", "right: nodes 3;group 0 1;notice 1", "hold 2 1 true", "send 2 0", "ticks 2", "crash 2", "ticks 3", "has 1 0 0 = 1", "node 1 1 = 1", "node 1 4 = 1",
            "right: notice 20", "hold 2 1 false", "ticks 1", "channel 2 1 2 = 0", "node 1 1 = 1", "has 1 0 1 = 1", "has 1 0 3 = 0", "node 1 4 = 1", "channel 1 2 3 = 0");
        // the PROPOSAL of NODE 1 comes in TICK 10, when NODE 2 does not GATHER any more
        s.run("PROPOSAL, and it does not GATHER", "right: nodes 3;group 0 1;notice 0;delay 1 2 9", "send 2 0", "ticks 3", "gather 2 0 0 = 1", "crash 1", "ticks 1", "message 0 4 = 0",
            "message 0 2 = 5", "ticks 6 = 1", "channel 1 2 2 = 1", "ticks 1", "channel 1 2 2 = 0", "gather 2 0 0" + NO_STATE, "message 0 2 = 5", "has 0 0 1 = 1", "has 0 0 2 = 0");
        s.run("PROPOSAL: the greatest STAMP goes up", "right: nodes 3;group 0 1 2;delay 1 0 2;delay 2 0 3", "send 0 0", "ticks 2", "gather 0 0 1 = -1", "ticks 1", "gather 0 0 0 = 1",
            "gather 0 0 1 = 1", "gather 0 0 2 = 0", "ticks 1", "gather 0 0 0 = 3", "gather 0 0 2 = 1", "gather 0 0 3 = -1");
        s.run("PROPOSAL: a lesser STAMP changes nothing", "right: nodes 2;group 0;group 0 1;delay 1 0 3", "send 0 0", "ticks 4 = 1", "send 0 1 = 1", "hold 1 0 true", "ticks 3", "gather 0 1 0 = 1",
            "gather 0 1 1 = 2", "right: notice 0", "hold 0 0 true", "hold 1 0 false", "ticks 3 = 1", "has 1 1 1 = 2", "has 1 1 2 = 0");
    }

    private static void hearsFinal(Script s) {
        s.run("FINAL: CLOCK is its number at least", "right: nodes 2;group 0;group 0 1", "send 1 1 = 0", "send 1 0 = 1", "send 1 0 = 2", "ticks 4 = 4", "has 0 0 1 = 1", "node 0 1 = 3", "node 1 1 = 1",
            "send 0 1 = 3", "ticks 3", "node 1 1 = 2", "ticks 1 = 2", "has 1 3 1 = 4", "node 1 1 = 4", "node 0 1 = 4");
        s.run("FINAL, and it is DELIVERED", "right: nodes 2;group 0;notice 0", "send 1 0", "ticks 4 = 1", "crash 1", "ticks 3 = 0", "packet 0 0 0 1 = 2", "ticks 1 = 0", "has 0 0 0 = 3", "when 0 0 = 3",
            "delivered 0 0 = 0", "delivered 0 1 = -1", "node 0 3 = 1");
        s.run("FINAL of one who is not the LEADER", "right: nodes 4;group 0 1;group 0;notice 1", "send 0 1", "send 0 1", "ticks 4 = 2", "send 2 0 = 2", "ticks 2", "hold 2 1 true", "hold 2 0 true",
            "ticks 1", "packet 2 1 0 1 = 2", "packet 2 1 0 3 = 3", "crash 2", "ticks 3", "has 1 2 3 = 0", "node 1 1 = 1", "hold 0 1 true", "hold 2 1 false", "ticks 1 = 0", "channel 2 1 2 = 0",
            "node 1 1 = 3", "has 1 2 0 = 1", "has 1 2 1 = 1", "has 1 2 3 = 0");
    }

    private static void hearsTake(Script s) {
        s.run("TAKE, and it has nothing", "right: nodes 3;group 0 1;group 1;notice 1", "send 2 1", "ticks 4 = 1", "hold 2 1 true", "send 2 0 = 1", "ticks 2", "crash 2", "ticks 2", "has 1 1 0 = 0",
            "node 1 1 = 1", "ticks 1", "has 1 1 0 = 1", "has 1 1 1 = 2", "has 1 1 2 = 1", "has 1 1 3 = 0", "node 1 1 = 2", "packet 1 0 0 1 = 4", "packet 1 0 0 3 = 2");
        s.run("TAKE, and it is PROPOSED", "right: nodes 3;group 0 1;notice 1", "send 2 0", "ticks 2", "crash 2", "ticks 2", "has 1 0 3 = 2", "ticks 1", "has 1 0 0 = 1", "has 1 0 1 = 1",
            "has 1 0 3 = 0", "node 1 1 = 1", "hold 0 0 true", "ticks 1", "gather 0 0 0 = 2", "gather 0 0 1 = 1", "gather 0 0 2 = 1", "gather 0 0 3 = -1");
        // MESSAGE 0 holds MESSAGE 1 back in NODE 1, which is FINAL there; NODE 0 does not know that
        s.run("TAKE, and it is FINAL", "right: nodes 4;group 1;group 0 1;notice 1", "hold 1 2 true", "send 2 0 = 0", "ticks 2", "send 3 1 = 1", "ticks 2", "hold 3 0 true", "ticks 2", "has 1 1 0 = 2",
            "has 0 1 0 = 1", "crash 3", "ticks 1", "message 1 4 = 0", "ticks 1", "gather 0 1 0 = 0", "ticks 1", "packet 1 0 0 1 = 4", "packet 1 0 0 3 = 2", "packet 1 0 0 4 = 1", "has 1 1 0 = 2",
            "has 1 1 3 = 0", "hold 0 0 true", "ticks 1", "gather 0 1 0 = 2", "gather 0 1 1 = 2", "gather 0 1 2 = 1", "gather 0 1 3 = 2", "hold 0 0 false", "ticks 1", "message 1 4 = 0",
            "packet 0 0 0 1 = 2", "packet 0 0 0 3 = 2", "packet 0 0 0 4 = 1", "ticks 1 = 1", "has 0 1 0 = 3");
        s.run("TAKE, and it is DELIVERED", "right: nodes 3;group 0 1;notice 1", "send 2 0", "ticks 2", "hold 2 0 true", "ticks 2 = 1", "has 1 0 0 = 3", "has 0 0 0 = 1", "crash 2", "ticks 3",
            "has 1 0 0 = 3", "has 1 0 3 = 0", "hold 0 0 true", "ticks 1", "gather 0 0 0 = 2", "gather 0 0 3 = 1", "hold 0 0 false", "ticks 2 = 1", "delivered 1 1 = -1");
    }

    private static void full(Script s) {
        s.run("a GATHER is not full, one is not NOTICED", "right: nodes 2;group 0 1;notice 2", "hold 1 0 true", "send 0 0", "ticks 3", "gather 0 0 0 = 1", "crash 1", "ticks 2", "gather 0 0 0 = 1",
            "message 0 2 = 4", "ticks 1", "gather 0 0 0" + NO_STATE, "message 0 2 = 5", "packet 0 0 0 1 = 2", "packet 0 0 0 3 = 1", "packet 0 0 0 4 = 0", "channel 0 1 3 = 1", "ticks 1 = 1");
        s.run("a GATHER is full, each is heard of", "right: nodes 2;group 0 1;delay 1 0 2", "send 0 0", "ticks 3", "gather 0 0 0 = 1", "ticks 1", "gather 0 0 0" + NO_STATE, "message 0 2 = 6",
            "packet 0 1 0 4 = 1");
        s.run("one that heard of nobody ends without that", "right: nodes 3;group 1 2;notice 1", "crash 1", "crash 2", "send 0 0", "message 0 2 = 2", "ticks 1", "message 0 4 = 1", "ticks 1",
            "message 0 4 = 0", "message 0 2 = 2", "node 0 4 = 2", "gather 0 0 0" + NO_STATE);
        s.run("one that heard of one alone ends with that", "right: nodes 3;group 1 2;notice 9;at 2 crash 1;at 2 crash 2", "hold 2 0 true", "send 0 0", "ticks 3", "gather 0 0 0 = 2", "right: notice 0",
            "ticks 1", "message 0 4 = 0", "message 0 2 = 4", "has 1 0 0 = 1");
        s.run("NOTICED, though it is heard of", "right: nodes 2;group 0 1;notice 0", "hold 0 0 true", "send 0 0", "ticks 3", "gather 0 0 0 = 2", "crash 1", "hold 0 0 false", "ticks 2",
            "packet 0 0 0 3 = 1", "packet 0 0 0 4 = 1", "channel 0 1 2 = 0", "ticks 1 = 1", "has 0 0 2 = 1");
    }

    private static void events(Script s) {
        s.run("EVENTS with a time of TICK at most", "right: nodes 2;group 0;at 3 send 0 0;at 4 crash 1", "ticks 3", "count 7 = 2", "count 3 = 0", "ticks 1", "count 7 = 1", "count 3 = 1", "log 0 0 = 3",
            "node 1 0 = 1", "ticks 1", "count 7 = 0", "node 1 0 = 0");
        s.run("in the order in which they were told: crash first", "right: nodes 2;group 1;at 2 crash 0;at 2 send 0 0", "ticks 3", "node 0 0 = 0", "count 3 = 0", "count 7 = 0");
        s.run("in the order in which they were told: send first", "right: nodes 2;group 1;at 2 send 0 0;at 2 crash 0", "ticks 3", "node 0 0 = 0", "count 3 = 1", "count 7 = 0", "count 8 = 1");
        s.run("in the order in which they were told, not of who it is", "right: nodes 3;group 0;group 1;at 1 send 2 1;at 0 send 1 0;at 1 send 0 0", "ticks 2", "message 0 0 = 1", "message 1 0 = 2",
            "message 2 0 = 0");
        s.run("what cannot be: a send of one that is DOWN", "right: nodes 2;group 0;at 2 send 1 0", "crash 1", "ticks 3", "count 3 = 0", "count 7 = 0", "count 9 = 1");
        s.run("what cannot be: a crash of one that is DOWN", "right: nodes 2;notice 5;at 2 crash 1;at 4 crash 1", "ticks 5", "count 7 = 0", "count 9 = 1", "log 0 0 = 2", "ticks 1", "node 1 5 = 0", "ticks 1",
            "node 1 5 = 1");
        String[] nineteen = Script.join(new String[] {"right: nodes 2;group 0;at 2 send 1 0;at 2 send 0 0;at 3 crash 1"}, Script.times(19, "send 0 0 = #"));
        s.run("what cannot be: a 21st MESSAGE", Script.join(nineteen, "ticks 3", "count 3 = 20", "message 19 0 = 1", "count 7 = 1", "ticks 1", "node 1 0 = 0", "count 7 = 0"));
        s.run("what cannot be does not wait", "right: nodes 2;group 0;at 1 send 1 0;at 5 send 0 0", "crash 1", "ticks 2", "count 7 = 1", "event 0 2 = 0", "ticks 4", "count 3 = 1", "message 0 0 = 0");
    }

    private static void packetsComeInTime(Script s) {
        s.run("PACKETS with a time of TICK at most", "right: nodes 2;group 1;delay 0 1 4", "send 0 0", "packet 0 1 0 0 = 4", "ticks 4", "has 1 0 0 = 0", "channel 0 1 2 = 1", "ticks 1", "has 1 0 0 = 1",
            "channel 0 1 2 = 0", "packet 1 0 0 0 = 5");
        s.run("PACKETS of a CHANNEL that is HELD", "right: nodes 2;group 1", "hold 0 1 true", "send 0 0", "ticks 60", "has 1 0 0 = 0", "channel 0 1 2 = 1", "hold 0 1 false", "has 1 0 0 = 0", "ticks 1",
            "has 1 0 0 = 1");
        s.run("one behind another", "right: nodes 2;group 1;delay 0 1 2", "send 0 0", "ticks 1", "send 0 0", "packet 0 1 0 2 = 0", "packet 0 1 1 2 = 1", "ticks 2", "packet 0 1 0 2 = 1",
            "packet 0 1 1 2" + NO_INDEX, "has 1 0 0 = 1", "has 1 1 0 = 0", "ticks 1", "has 1 1 0 = 1");
        s.run("by numbers of who puts there", "right: nodes 3;group 2", "send 2 0 = 0", "send 1 0 = 1", "send 0 0 = 2", "ticks 2", "has 2 2 1 = 1", "has 2 1 1 = 2", "has 2 0 1 = 3");
        s.run("what is put in a TICK comes in a later one", "right: nodes 1;group 0", "send 0 0", "ticks 1", "has 0 0 0 = 0", "ticks 1", "has 0 0 0 = 1", "gather 0 0 0 = 0", "ticks 1", "has 0 0 0 = 1",
            "message 0 4 = 0", "ticks 1", "has 0 0 0 = 3");
    }

    private static void goneWithDown(Script s) {
        s.run("PACKETS for one that is DOWN are gone at the end of the TICK", "right: nodes 2;group 1", "send 0 0", "crash 1", "channel 0 1 2 = 1", "count 8 = 1", "ticks 1", "channel 0 1 2 = 0", "count 8 = 0");
        s.run("gone, though their time is later", "right: nodes 2;group 1;delay 0 1 9", "send 0 0", "crash 1", "ticks 1", "channel 0 1 2 = 0", "channel 0 1 3 = 9");
        s.run("gone, though they are HELD", "right: nodes 2;group 1", "hold 0 1 true", "send 0 0", "crash 1", "ticks 1", "channel 0 1 2 = 0", "channel 0 1 1 = 1");
        s.run("gone, though they are put in that TICK", "right: nodes 2;group 1;notice 20;at 3 send 0 0", "crash 1", "ticks 3", "message 0 2" + NO_INDEX, "ticks 1", "message 0 2 = 1", "channel 0 1 3 = 4",
            "channel 0 1 2 = 0");
        s.run("gone from one that is DOWN to itself", "right: nodes 2;group 1", "send 1 0", "crash 1", "channel 1 1 2 = 1", "ticks 1", "channel 1 1 2 = 0");
        s.run("those of one that is DOWN to another one stay", "right: nodes 2;group 1;delay 0 1 3", "send 0 0", "crash 0", "ticks 3", "channel 0 1 2 = 1", "ticks 1", "channel 0 1 2 = 0", "has 1 0 0 = 1");
    }

    private static void takesOver(Script s) {
        s.run("taken over when the LEADER is NOTICED", "right: nodes 3;group 0 1;notice 2", "send 2 0", "ticks 2", "crash 2", "ticks 2", "message 0 4 = 4", "count 9 = 2", "ticks 1", "message 0 4 = 5",
            "log 0 0 = 4", "log 0 1 = 0", "log 0 2 = 3", "log 0 3 = 0");
        s.run("not by another one than the least that is not NOTICED", "right: nodes 3;group 0 1;notice 2", "send 2 0", "ticks 2", "crash 2", "ticks 1", "crash 0", "ticks 2", "message 0 4 = 4", "ticks 1",
            "message 0 4 = 6", "log 0 0 = 5", "log 0 1 = 1", "log 0 2 = 3");
        s.run("not by one that has nothing", "right: nodes 3;group 0 1;notice 1", "hold 2 0 true", "send 2 0", "ticks 2", "crash 2", "ticks 9", "message 0 4 = 4", "has 1 0 0 = 1", "hold 2 0 false", "ticks 1",
            "message 0 4 = 5");
        s.run("not by one that GATHERS for it", "right: nodes 3;group 0 1;notice 0", "send 2 0", "ticks 2", "crash 2", "hold 0 0 true", "ticks 1", "message 0 4 = 5", "count 9 = 3", "message 0 2 = 6", "ticks 20",
            "count 9 = 3", "message 0 2 = 7", "has 0 0 3 = 2");
        s.run("taken over again, if the next one goes DOWN", "right: nodes 3;group 0 1;notice 1", "send 2 0", "ticks 2", "crash 2", "ticks 3", "has 1 0 3 = 0", "crash 0", "ticks 1", "message 0 4 = 5", "ticks 1",
            "message 0 4 = 7", "log 0 1 = 1", "log 0 2 = 3", "ticks 4 = 1", "has 1 0 3 = 1", "message 0 3 = 2");
        s.run("each MESSAGE is taken over", "right: nodes 2;group 0;notice 0", "send 1 0", "send 1 0", "ticks 2", "crash 1", "ticks 1", "log 1 2 = 3", "log 1 3 = 0", "log 0 2 = 3", "log 0 3 = 1");
    }

    private static void handsOut(Script s) {
        s.run("while the least is FINAL", "right: nodes 2;group 0;group 0 1;group 0;delay 1 0 5", "send 0 1 = 0", "send 0 0 = 1", "send 0 2 = 2", "ticks 4 = 0", "has 0 1 0 = 2", "has 0 2 0 = 2",
            "has 0 0 0 = 1", "ticks 3 = 0", "ticks 1 = 4", "delivered 0 0 = 0", "delivered 0 1 = 1", "delivered 0 2 = 2", "log 2 3 = 1", "log 1 3 = 2", "log 0 1 = 1");
        s.run("nothing is held back by what is greater", "right: nodes 2;group 0;group 0 1", "hold 1 0 true", "send 0 0 = 0", "send 0 1 = 1", "ticks 4 = 1", "has 0 0 0 = 3", "has 0 1 0 = 1");
    }

    private static void down(Script s) {
        s.run("one that goes DOWN keeps what it has", "right: nodes 2;group 0 1", "send 0 0", "send 0 0", "ticks 2", "crash 0", "ticks 9", "has 0 0 0 = 1", "has 0 0 1 = 1", "has 0 1 1 = 2", "has 0 0 3 = 0",
            "node 0 1 = 2", "gather 0 0 0 = 0", "gather 0 1 1 = -1", "node 0 2 = 2", "those 0 1 = 3");
        s.run("one that goes DOWN keeps what it has DELIVERED", "right: nodes 2;group 0", "send 1 0", "ticks 4 = 1", "crash 0", "ticks 9", "has 0 0 0 = 3", "delivered 0 0 = 0", "when 0 0 = 3", "message 0 3 = 1");
        s.run("one that goes DOWN puts and delivers nothing", "right: nodes 2;group 0 1;notice 20", "send 0 0", "ticks 3", "count 8 = 2", "crash 0", "ticks 1 = 1", "has 0 0 0 = 1", "has 1 0 0 = 3", "node 0 4 = 5",
            "message 0 2 = 6", "count 8 = 0");
    }

    private static void log(Script s) {
        String net = "right: nodes 2;group 0 1;group 0";
        // 20 sent, 19 DELIVERED by both and one by NODE 0 alone
        String[] rows = Script.join(Script.join(new String[] {net}, Script.times(19, "send 0 0 = #")), "send 0 1 = 19", "count 9 = 20", "ticks 4 = 39");
        s.run("THE LOG: 59", Script.join(rows, "count 9 = 59", "log 58 2 = 0", "log 58 3 = 0", "log 57 3 = 1", "log 59 0 = -1", "log 59 3 = -1", "log 0 1 = 1", "log 0 3 = 18"));
        s.run("THE LOG: 60", Script.join(rows, "crash 1", "count 9 = 60", "log 59 2 = 0", "log 59 3 = 0", "log 60 0 = -1", "log 60 2 = -1", "log 0 2 = 2", "log 0 3 = -1"));
        s.run("THE LOG: 61", Script.join(rows, "crash 1", "crash 0", "count 9 = 60", "log 59 2 = 0", "log 59 3 = 1", "log 60 2 = -1", "log 0 1 = 0", "log 1 1 = 1", "log 1 2 = 2"));
        s.run("THE LOG: sent, DELIVERED, DOWN, taken over", "right: nodes 2;group 0;notice 0", "ticks 2", "send 1 0", "log 0 0 = 2", "log 0 1 = 1", "log 0 2 = 0", "log 0 3 = 0", "ticks 4 = 1", "log 0 0 = 5", "log 0 1 = 0",
            "log 0 2 = 1", "log 0 3 = 0", "crash 1", "log 0 0 = 6", "log 0 1 = 1", "log 0 2 = 2", "log 0 3 = -1", "ticks 1", "log 0 0 = 6", "log 0 1 = 0", "log 0 2 = 3", "log 0 3 = 0", "count 9 = 4");
        s.run("THE LOG: none at first", "count 9 = 0", "log 0 0 = -1", "log 0 3 = -1", "log -1 0 = -1");
    }
}
