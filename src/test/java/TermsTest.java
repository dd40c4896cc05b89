/**
 * The section 'Terms': each sentence that names a boundary, at the boundary and at one less and one more. The nodes
 * 1 and 3 often run ahead of the others, so that stamps and doubts can be set one by one.
 */
public final class TermsTest {
    public static void main(String[] arguments) {
        clocks();
        meetingStamps();
        movesAndUps();
        downs();
        transactions();
        alive();
        doubts();
        meeting();
        Script.end("TermsTest");
    }

    // ---- Time, nodes, stamps

    private static void clocks() {
        Script.play("the time is 0 at first, at most 2000", "pass 1 = 1; repeat 39 pass 50; pass 49 = 2000; pass 1 ! State");
        Script.play("each skew is 0 at first, and the greatest stamp met, too", "clock 0 = 1; clock 3 = 1; skew 0 0 = 0; skew 3 0 = 0");
        Script.play("a clock: 10 times the sum is 1 less than 1 more than the greatest stamp met", "pass 1 = 1; clock 0 = 10; clock 0 = 11");
        Script.play("a clock: both are the same", "repeat 9 clock 0; pass 1 = 1; clock 0 = 10; clock 0 = 11");
        Script.play("a clock: 10 times the sum is greater by 1", "repeat 8 clock 0; pass 1 = 1; clock 0 = 10");
        Script.play("a clock: 1 more than the greatest stamp met is greater by 1", "repeat 10 clock 0; pass 1 = 1; clock 0 = 11");
        Script.play("a clock: the sum is below 0, 0, and 1",
            "skew 0 -5 = 0; clock 0 = 1; pass 4 = 4; clock 0 = 2; pass 1 = 5; clock 0 = 3; pass 1 = 6; clock 0 = 10");
        Script.play("a clock: the sum is 0 and nothing was met", "skew 0 -5 = 0; pass 5 = 5; clock 0 = 1");
        Script.play("a clock: the greatest skew at the end of the time", "skew 0 5 = 0; skew 1 -5 = 0; repeat 40 pass 50; clock 0 = 20050; clock 1 = 19950");
        Script.play("the closed stamp, at least 0", "pass 14 = 14; closed = 0; pass 1 = 15; closed = 0; pass 1 = 16; closed = 10");
    }

    private static void meetingStamps() {
        Script.play("the node has met the read stamp: that is greater than what it has met",
            "skew 1 5 = 0; begin 1 0 = 0; told 0 1 = 50; get 0 5 = GONE; clock 0 = 52");
        Script.play("the node has met the read stamp: that is greater by 1, the same, less by 1",
            "pass 1 = 1; begin 0 0 = 0; told 0 1 = 10; repeat 9 clock 2; clock 2 = 19; clock 1 = 10; move 0 1 = 0; get 0 5 = GONE; clock 1 = 12",
            "begin 1 0 = 1; told 1 1 = 13; begin 2 0 = 2; told 2 1 = 20; get 2 5 = GONE; clock 1 = 22");
        Script.play("the node has met the read stamp, not the write stamp",
            "skew 1 5 = 0; skew 0 5 = 0; begin 1 0 = 0; told 0 1 = 50; clock 0 = 50; clock 0 = 51; move 0 2 = 0; key 5 2 = 52",
            "put 0 5 7 = DONE; told 0 1 = 50; told 0 2 = 53; get 0 6 = GONE; put 0 5 8 = DONE; clock 2 = 52");
        Script.play("each time that it is asked, its clock just the first time",
            "skew 1 5 = 0; begin 1 0 = 0; get 0 5 = GONE; clock 0 = 52; get 0 6 = GONE; put 0 7 1 = DONE; clock 0 = 53");
        Script.play("the read stamp of then: it may have risen since the first time",
            "skew 1 5 = 0; split 16 = 2; move 1 3 = 0; begin 2 0 = 0; get 0 1 = GONE; begin 1 0 = 1; put 1 20 1 = DONE; commit 1 plain = DONE",
            "told 0 1 = 1; get 0 20 = 1; told 0 1 = 50; clock 0 = 3; get 0 1 = GONE; clock 0 = 51");
        Script.play("not where it is answered ENDED at once",
            "skew 1 5 = 0; begin 1 0 = 0; begin 1 0 = 1; begin 1 0 = 2; abort 0 = DONE; commit 1 plain = DONE; get 0 5 = ENDED; put 0 5 1 = ENDED; get 1 5 = ENDED",
            "clock 0 = 1; move 0 2 = 0; put 2 5 1 = DONE; commit 2 staged = DONE; move 0 3 = 2; get 2 5 = ENDED; put 2 6 1 = ENDED; clock 3 = 1");
        Script.play("not where it is answered DOWN at once, by its node or by that of the key",
            "skew 1 5 = 0; begin 1 0 = 0; down 1 = 0; get 0 5 = DOWN; put 0 5 1 = DOWN; clock 0 = 1; up 1; down 0 = 0; get 0 5 = DOWN; put 0 5 1 = DOWN; up 0 = 2");
        Script.play("also for a key that it writes itself",
            "skew 1 5 = 0; begin 1 0 = 0; put 0 5 1 = DONE; move 0 2 = 0; get 0 5 = 1; clock 2 = 52; move 0 3 = 2; put 0 5 2 = DONE; clock 3 = 52");
        Script.play("also if it waits",
            "skew 1 5 = 0; begin 2 0 = 0; put 0 5 1 = DONE; clock 0 = 3; begin 1 0 = 1; put 1 5 2 = WAITS; clock 0 = 52; move 0 2 = 0; get 1 5 = WAITS; clock 2 = 52");
        Script.play("and if it ends by a ring in the call",
            "skew 1 5 = 0; split 16 = 2; begin 2 0 = 0; begin 1 0 = 1; put 0 20 1 = DONE; put 1 5 1 = DONE; put 0 5 2 = WAITS; move 1 3 = 0; clock 3 = 1",
            "get 1 20 = ENDED; clock 3 = 52");
        Script.play("and if it is a RESTART",
            "skew 1 5 = 0; split 16 = 2; move 1 3 = 0; begin 2 0 = 0; get 0 1 = GONE; begin 1 0 = 1; put 1 1 1 = DONE; put 1 20 1 = DONE; commit 1 plain = DONE",
            "move 1 2 = 3; clock 2 = 2; get 0 20 = GONE; told 0 1 = 1; move 1 3 = 2; get 0 20 = RESTART; told 0 1 = 50; clock 3 = 54");
    }

    // ---- Keys, ranges

    private static void movesAndUps() {
        String read51 = "split 16 = 2; move 1 1 = 0; begin 2 0 = 0; get 0 0 = GONE; skew 3 5 = 0; begin 3 0 = 1; get 1 16 = GONE; put 0 16 1 = DONE; told 0 2 = 51";
        String more = "commit 0 plain = DONE; key 0 2 = 51; key 0 3 = 0; pass 5 = 5";
        Script.play("to move: what the clock tells is less by 1", read51, more, "move 0 2 = 0; key 1 2 = 50; key 1 3 = SEVERAL; key 0 2 = 51; key 0 3 = 0");
        Script.play("to move: it is the same", read51, more, "clock 0 = 50; move 0 2 = 0; key 1 2 = 51; key 1 3 = SEVERAL; key 0 2 = 51; key 0 3 = 0");
        Script.play("to move: it is greater by 1", read51, more, "clock 0 = 50; clock 0 = 51; move 0 2 = 0; key 0 2 = 52; key 0 3 = SEVERAL");
        Script.play("to come up: what the clock tells is less by 1", read51, more, "down 0 = 0; up 0 = 50; key 1 2 = 50; key 0 2 = 51; key 0 3 = 0");
        Script.play("to come up: it is the same", read51, more, "clock 0 = 50; down 0 = 0; up 0 = 51; key 1 2 = 51; key 0 2 = 51; key 0 3 = 0");
        Script.play("to come up: it is greater by 1", read51, more, "clock 0 = 50; clock 0 = 51; down 0 = 0; up 0 = 52; key 0 2 = 52; key 0 3 = SEVERAL");
        Script.play("to move: the clock of the node on which it was, not that to which it goes, which has met nothing",
            "pass 1 = 1; skew 1 5 = 0; move 0 1 = 0; key 0 2 = 10; clock 1 = 60; move 0 2 = 1; key 0 2 = 61; clock 2 = 10; clock 0 = 11");
        Script.play("each of the keys: the first and the last one of a range, none beside",
            "pass 1 = 1; split 8 = 2; split 16 = 3; move 1 1 = 0; key 7 2 = 0; key 8 2 = 10; key 15 2 = 10; key 16 2 = 0; key 7 5 = 0; key 16 5 = 0");
        Script.play("each of the keys of a node that comes up, in all its ranges",
            "pass 1 = 1; split 8 = 2; split 16 = 3; move 1 1 = 0; pass 1 = 2; down 0 = 0; up 0 = 20; key 0 2 = 20; key 7 2 = 20; key 8 2 = 10; key 15 2 = 10; key 16 2 = 20; key 31 2 = 20");
        Script.play("a node without a range comes up", "down 3 = 0; up 3 = 1; key 0 2 = 0; key 31 2 = 0; key 0 3 = NONE");
    }

    private static void downs() {
        Script.play("sure or not: one that is sure stays, one that is not is lost",
            "begin 1 0 = 0; put 0 0 1 = DONE; put 0 31 1 = DONE; sync 0 = 2; put 0 30 1 = DONE; down 0 = 1; key 0 1 = 0; key 31 1 = 0; key 30 1 = NONE");
        Script.play("sure, and then written once more, it is not sure", "begin 1 0 = 0; put 0 0 1 = DONE; sync 0 = 1; put 0 0 2 = DONE; down 0 = 1; key 0 1 = NONE");
        Script.play("on its ranges, wherever they were when it was written",
            "split 16 = 2; begin 1 0 = 0; put 0 0 1 = DONE; put 0 16 1 = DONE; move 1 2 = 0; down 0 = 1; key 16 1 = 0; down 2 = 1; key 16 1 = NONE");
        Script.play("a transaction of a node that goes down keeps its intents elsewhere",
            "split 16 = 2; move 1 2 = 0; begin 0 0 = 0; put 0 16 1 = DONE; down 0 = 0; key 16 1 = 0; told 0 0 = PENDING; told 0 5 = 1");
        Script.play("nothing can be asked of a node that is down, all can be of the others",
            "down 0 = 0; clock 0 ! State; down 0 ! State; sync 0 ! State; move 0 0 ! State; move 0 1 ! State; begin 0 0 ! State; begin 1 0 = 0; get 0 0 = DOWN",
            "put 0 0 1 = DOWN; commit 0 plain = DONE; clock 1 = 2; sync 1 = 0; key 0 5 = 0; asOf 0 0 = GONE");
    }

    // ---- Transactions

    private static void transactions() {
        Script.play("the write stamp is not below the read stamp: that is raised to one above it",
            "skew 1 5 = 0; begin 1 0 = 0; put 0 5 1 = DONE; commit 0 plain = DONE; begin 2 0 = 1; told 1 2 = 1; get 1 5 = 1; told 1 1 = 50; told 1 2 = 50");
        Script.play("the write stamp is not below the read stamp: that is raised to one below it",
            "skew 1 5 = 0; pass 10 = 10; begin 2 0 = 0; begin 1 0 = 1; put 1 3 77 = DONE; commit 1 plain = DONE; begin 1 0 = 2; get 2 4 = GONE; key 4 2 = 151",
            "put 0 4 5 = DONE; told 0 2 = 152; get 0 3 = 77; told 0 1 = 150; told 0 2 = 152; commit 0 plain = DONE; told 0 1 = 152");
        Script.play("when one is COMMITTED, all its intents become versions at once, on nodes that are down, too",
            "split 16 = 2; move 1 2 = 0; begin 1 0 = 0; put 0 0 1 = DONE; put 0 31 1 = DONE; sync 2 = 1; commit 0 staged = DONE; down 2 = 0; recover 0 = COMMITTED",
            "key 0 0 = 1; key 31 0 = 1; key 0 1 = NONE; key 31 1 = NONE; key 31 6 = 0");
        Script.play("when it is ABORTED, they stay until they are met, one by one",
            "begin 0 0 = 0; put 0 0 1 = DONE; put 0 31 1 = DONE; abort 0 = DONE; key 0 1 = 0; key 31 1 = 0; begin 0 0 = 1; get 1 0 = GONE; key 0 1 = NONE; key 31 1 = 0",
            "put 1 31 2 = DONE; key 31 1 = 1");
        Script.play("a rank of 0 has none below, one of 9 none above",
            "begin 0 0 = 0; begin 0 9 = 1; put 0 0 1 = DONE; put 1 1 1 = DONE; put 0 1 2 = WAITS; put 1 0 2 = DONE; told 0 0 = ABORTED; begin 0 9 = 2; put 2 0 3 = WAITS");
    }

    private static void alive() {
        Script.play("alive 20 ticks behind its beginning, that included", "begin 0 0 = 0; pass 20 = 20; told 0 6 = 0");
        Script.play("alive 20 ticks behind its beginning, not behind the beginning of time", "pass 50 = 50; begin 0 0 = 0; pass 20 = 70; told 0 6 = 0; pass 1 = 71; told 0 6 = 1");
        Script.play("not alive 21 ticks behind its beginning", "begin 0 0 = 0; pass 21 = 21; told 0 6 = 1");
        Script.play("alive 20 ticks behind its latest beat, that included", "begin 0 0 = 0; pass 20 = 20; beat 0 = DONE; pass 20 = 40; told 0 6 = 0; pass 1 = 41; told 0 6 = 1");
        Script.play("a beat behind that makes it alive", "begin 0 0 = 0; pass 21 = 21; told 0 6 = 1; beat 0 = DONE; told 0 6 = 0; pass 20 = 41; told 0 6 = 0; pass 1 = 42; told 0 6 = 1");
        Script.play("one that is STAGED is vanished likewise", "begin 0 0 = 0; put 0 0 1 = DONE; commit 0 staged = DONE; pass 20 = 20; told 0 6 = 0; pass 1 = 21; told 0 6 = 1");
        Script.play("one that is COMMITTED or ABORTED is not", "begin 0 0 = 0; begin 0 0 = 1; commit 0 plain = DONE; abort 1 = DONE; pass 21 = 21; told 0 6 = 0; told 1 6 = 0");
        Script.play("a RESTART is no beat",
            "begin 0 0 = 0; begin 0 0 = 1; get 0 7 = GONE; put 1 7 1 = DONE; commit 1 plain = DONE; pass 20 = 20; put 0 7 2 = DONE; commit 0 plain = RESTART; pass 1 = 21; told 0 6 = 1");
        Script.play("vanished, it can go on all the same: get, put, commit, as long as nobody met it",
            "begin 0 0 = 0; put 0 0 1 = DONE; pass 50 = 50; told 0 6 = 1; get 0 1 = GONE; put 0 2 1 = DONE; commit 0 plain = DONE; told 0 6 = 0");
        Script.play("met 20 ticks behind, it is in the way; met 21 ticks behind, it is ABORTED",
            "begin 0 0 = 0; put 0 0 1 = DONE; pass 20 = 20; begin 0 0 = 1; put 1 0 2 = WAITS; told 0 0 = PENDING; pass 1 = 21; put 1 0 2 = DONE; told 0 0 = ABORTED; beat 0 = ENDED");
        Script.play("met by a get of a lower rank, 20 and 21 ticks behind",
            "begin 0 9 = 0; put 0 0 1 = DONE; pass 20 = 20; begin 0 0 = 1; get 1 0 = WAITS; told 0 0 = PENDING; pass 1 = 21; get 1 0 = GONE; told 0 0 = ABORTED; key 0 1 = NONE");
    }

    private static void doubts() {
        // The node 0 is ahead of the node 2 by 10 ticks at most, so its clock tells up to 100 more.
        String ahead = "skew 0 5 = 0; skew 2 -5 = 0; pass 10 = 10; begin 2 0 = 0; told 0 1 = 50; begin 0 0 = 1; begin 0 0 = 2; told 1 1 = 150; told 2 1 = 151";
        Script.play("the doubt goes up to 100 above the first stamp: a version at that", ahead, "put 1 3 7 = DONE; commit 1 plain = DONE; get 0 3 = 7; told 0 1 = 150");
        Script.play("the doubt goes up to 100 above the first stamp: a version at 1 more", ahead, "put 2 3 7 = DONE; told 2 2 = 151; commit 2 plain = DONE; get 0 3 = GONE; told 0 1 = 50");
        Script.play("the doubt goes up to 100 above the first stamp: an intent at that", ahead, "put 1 3 7 = DONE; get 0 3 = WAITS");
        Script.play("the doubt goes up to 100 above the first stamp: an intent at 1 more", ahead, "put 2 3 7 = DONE; get 0 3 = GONE");
        Script.play("the doubt there goes up to what the clock told, if that is less: a version at that",
            "skew 1 1 = 0; begin 2 0 = 0; told 0 1 = 1; repeat 8 clock 0; get 0 9 = GONE; begin 1 0 = 1; told 1 1 = 10; put 1 3 7 = DONE; commit 1 plain = DONE; get 0 3 = GONE",
            "begin 2 0 = 2; told 2 1 = 2; get 2 3 = 7; told 2 1 = 10");
        Script.play("the doubt there goes up to what the clock told: at it, and 1 above it",
            "skew 1 1 = 0; begin 2 0 = 0; repeat 9 clock 0; get 0 9 = GONE; begin 1 0 = 1; begin 1 0 = 2; put 1 3 7 = DONE; put 2 4 8 = DONE; told 1 2 = 10; told 2 2 = 11",
            "commit 1 plain = DONE; commit 2 plain = DONE; get 0 4 = GONE; told 0 1 = 1; get 0 3 = 7; told 0 1 = 10");
        Script.play("what the clock told is 1 less than the doubt, the same, and 1 more",
            "skew 0 5 = 0; skew 2 -5 = 0; pass 10 = 10; begin 2 0 = 0; begin 2 0 = 1; begin 2 0 = 2; told 2 1 = 52; skew 2 5 = -5; begin 2 0 = 3; begin 2 0 = 4; begin 2 0 = 5; told 3 1 = 150",
            "get 2 9 = GONE; get 1 9 = GONE; get 0 9 = GONE; clock 0 = 153; put 3 3 7 = DONE; put 4 4 7 = DONE; put 5 5 7 = DONE; told 5 2 = 152",
            "commit 3 plain = DONE; commit 4 plain = DONE; commit 5 plain = DONE; get 2 4 = GONE; get 2 5 = GONE; get 2 3 = 7; told 2 1 = 150",
            "get 1 5 = GONE; told 1 1 = 51; get 1 4 = 7; told 1 1 = 151; get 0 5 = GONE; get 0 4 = GONE; told 0 1 = 50; get 0 3 = 7; told 0 1 = 150");
        Script.play("its own node is asked with them: its doubt there is what it tells then",
            "begin 0 0 = 0; told 0 1 = 1; get 0 9 = GONE; clock 0 = 3; begin 2 0 = 1; begin 2 0 = 2; begin 2 0 = 3; told 2 1 = 2; told 3 1 = 3; put 2 3 7 = DONE; put 3 4 8 = DONE",
            "commit 2 plain = DONE; commit 3 plain = DONE; get 0 4 = GONE; told 0 1 = 1; get 0 3 = 7; told 0 1 = 2");
        Script.play("just the first time: a clock that tells more by then doesn't count",
            "begin 2 0 = 0; get 0 9 = GONE; clock 0 = 3; pass 5 = 5; begin 2 0 = 1; told 1 1 = 50; put 1 3 7 = DONE; commit 1 plain = DONE; get 0 3 = GONE; told 0 1 = 1; get 0 9 = GONE; clock 0 = 52");
        Script.play("each node for itself, behind a move, too",
            "begin 2 0 = 0; get 0 9 = GONE; pass 5 = 5; begin 2 0 = 1; put 1 3 7 = DONE; commit 1 plain = DONE; get 0 3 = GONE; move 0 1 = 0; get 0 4 = GONE; get 0 3 = RESTART; told 0 1 = 50");
    }

    private static void meeting() {
        String staged = "split 16 = 2; move 1 1 = 0; begin 2 9 = 0; put 0 0 7 = DONE; put 0 15 7 = DONE; put 0 31 7 = DONE; commit 0 staged = DONE";
        Script.play("STAGED with all its intents is COMMITTED when it is met, the ranks don't matter", staged,
            "begin 2 0 = 1; get 1 0 = 7; told 0 0 = COMMITTED; key 15 0 = 1; key 31 0 = 1; key 31 1 = NONE");
        Script.play("STAGED without just one of them is ABORTED, the one that was met is gone", staged,
            "down 1 = 1; begin 2 0 = 1; get 1 0 = GONE; told 0 0 = ABORTED; key 0 1 = NONE; key 15 1 = 0; key 15 0 = 0");
        Script.play("STAGED without the first of them is ABORTED", staged, "down 0 = 2; begin 2 0 = 1; put 1 31 8 = DONE; told 0 0 = ABORTED; key 31 1 = 1");
        Script.play("STAGED, and another one's intent in place of its own lost one: it is not its own", staged,
            "down 1 = 1; up 1; begin 2 0 = 1; put 1 31 8 = DONE; told 0 0 = STAGED; key 31 1 = 1; put 1 0 8 = DONE; told 0 0 = ABORTED; key 0 1 = 1; key 15 1 = 0");
        Script.play("STAGED and vanished, it is COMMITTED yet when it is met", staged,
            "pass 21 = 21; told 0 6 = 1; begin 2 0 = 1; get 1 0 = 7; told 0 0 = COMMITTED");
        Script.play("PENDING and ABORTED, each is met at its own intent alone",
            "begin 0 9 = 0; put 0 0 1 = DONE; pass 21 = 21; begin 0 0 = 1; get 1 1 = GONE; put 1 2 1 = DONE; told 0 0 = PENDING; get 1 0 = GONE; told 0 0 = ABORTED; key 0 1 = NONE");
        Script.play("its own intent is not met: STAGED is ENDED, vanished goes on",
            "begin 0 0 = 0; put 0 0 1 = DONE; pass 21 = 21; get 0 0 = 1; put 0 0 2 = DONE; told 0 0 = PENDING; key 0 1 = 0");
    }
}
